-- THE REFERENCE: does a round fit (walks written by wip/whole/gen_gos.py)
theorem YF.tr {σ σ' σ'' : sto} (h : YF σ σ') (g : YF σ' σ'') : YF σ σ'' := fun c i q => (g c i q).trans (h c i q)
theorem YF.dr {σ σ' D : sto} {ns nv : Int} (h : YF σ σ') (hC : DR σ D ns nv) : DR σ' D ns nv := hC.keep (fun c i q => h c i (by omega))
theorem YF.ra {σ σ' : sto} {P : pln} (h : YF σ σ') (hC : RA σ P) : RA σ' P := hC.keep (fun c i q => h c i (by omega))
theorem mt_pairs {σ D : sto} {ns nv v : Int} {P : pln} (hC : DR σ D ns nv) (hO : DOK D ns nv) (hQ : RA σ P) (v0 : 0 ≤ v) (v1 : v < nv) (hl : RV ns (P v)) (hw : WY σ 0 (-1)) : CV M_Mod_pairs 1 [vR 169, vI v] σ (fun σ' => ∃ y x, WY σ' y x ∧ FI (pr1 D (P v)) 1 0 (-1) (ln (P v)) y x ∧ YF σ σ') := by
  have hn := hO.1
  have hl0 := ln0 (P v)
  have key : ∀ i, 0 ≤ i → i ≤ ln (P v) → ∀ (σ1 : sto) (y x : Int), WY σ1 y x → FI (pr1 D (P v)) 1 0 (-1) i y x → YF σ σ1 → Run M_Mod_pairs (rxV 1 (fun σ' => ∃ y x, WY σ' y x ∧ FI (pr1 D (P v)) 1 0 (-1) (ln (P v)) y x ∧ YF σ σ')) (0, 0) 2 [vR 169, vI v, vI i, vU] [] (sg σ1) := by
    refine up_ind (b := ln (P v)) ?_ ?_
    · intro σ1 y x hw1 hf1 hy1
      have hz := (hy1.ra hQ).len v0 (show v < 3 by omega)
      refine r_iload_n 2 d_Mod_pairs_2 rfl rfl ?_
      refine r_aload_n 0 d_Mod_pairs_3 rfl rfl ?_
      refine r_getR 184 d_Mod_pairs_4 fk_Mod_52 rfl rfl rfl (by decide) ?_
      refine r_iload_n 1 d_Mod_pairs_7 rfl rfl ?_
      refine r_iald 3 d_Mod_pairs_8 rfl rfl (by omega) (by omega) ?_
      rw [hz.1]
      refine r_icmp_ge 102 d_Mod_pairs_9 rfl (by omega) (by omega) (fun h9 => ?_) (fun h9 => absurd h9 (by omega))
      refine q_vret d_Mod_pairs_102 rfl ?_
      exact ⟨y, x, hw1, hf1, hy1⟩
    · intro i i0 i1 ih σ1 y x hw1 hf1 hy1
      have hC1 := hy1.dr hC
      have hQ1 := hy1.ra hQ
      have hz := hQ1.len v0 (show v < 3 by omega)
      have he := hQ1.el v0 (show v < 3 by omega) i0 i1
      have hr := hl.2 i i0 i1
      have hat := hC1.at hr.1 (by omega)
      have hd := hO.2.1 _ hr.1 hr.2
      have hyr := hf1.yr (by omega) (by omega)
      have k96 : ∀ (σ1 : sto) (y x : Int), WY σ1 y x → FI (pr1 D (P v)) 1 0 (-1) (i + 1) y x → YF σ σ1 → Run M_Mod_pairs (rxV 1 (fun σ' => ∃ y x, WY σ' y x ∧ FI (pr1 D (P v)) 1 0 (-1) (ln (P v)) y x ∧ YF σ σ')) (0, 0) 96 [vR 169, vI v, vI i, vI (gt (P v) i)] [] (sg σ1) := by
        intro σ1 y x hw1 hf1 hy1
        refine r_iinc 2 d_Mod_pairs_96 rfl (by decide) rfl ?_
        refine r_goto 2 d_Mod_pairs_99 rfl ?_
        exact r_drop 3 (ih σ1 y x hw1 hf1 hy1)
      have k90 : pr1 D (P v) i = true → Run M_Mod_pairs (rxV 1 (fun σ' => ∃ y x, WY σ' y x ∧ FI (pr1 D (P v)) 1 0 (-1) (ln (P v)) y x ∧ YF σ σ')) (0, 0) 90 [vR 169, vI v, vI i, vI (gt (P v) i)] [] (sg σ1) := by
        intro hp
        refine r_aload_n 0 d_Mod_pairs_90 rfl rfl ?_
        refine r_iconst d_Mod_pairs_91 ?_
        refine r_iload_n 2 d_Mod_pairs_92 rfl rfl ?_
        refine r_cVV 8 d_Mod_pairs_93 lk_Mod_181 vc_Mod_fails (mt_fails hw1 (by omega)) rfl rfl rfl rfl ⟨Nat.le_of_ble_eq_true rfl, Nat.le_of_ble_eq_true rfl⟩ ⟨Nat.zero_le _, Nat.zero_le _⟩ (Nat.le_of_ble_eq_true rfl) (fun s93 q93 => ?_)
        obtain ⟨q93, qy⟩ := q93
        obtain ⟨y2, x2, f2, w2⟩ := hf1.fail i0 (by omega) hp q93
        exact k96 _ y2 x2 w2 f2 (hy1.tr qy)
      refine r_iload_n 2 d_Mod_pairs_2 rfl rfl ?_
      refine r_aload_n 0 d_Mod_pairs_3 rfl rfl ?_
      refine r_getR 184 d_Mod_pairs_4 fk_Mod_52 rfl rfl rfl (by decide) ?_
      refine r_iload_n 1 d_Mod_pairs_7 rfl rfl ?_
      refine r_iald 3 d_Mod_pairs_8 rfl rfl (by omega) (by omega) ?_
      rw [hz.1]
      refine r_icmp_ge 102 d_Mod_pairs_9 rfl (by omega) (by omega) (fun h9 => absurd h9 (by omega)) (fun h9 => ?_)
      refine r_aload_n 0 d_Mod_pairs_12 rfl rfl ?_
      refine r_getR 183 d_Mod_pairs_13 fk_Mod_49 rfl rfl rfl (by decide) ?_
      refine r_bipush d_Mod_pairs_16 (by decide) ?_
      refine r_iload_n 1 d_Mod_pairs_18 rfl rfl ?_
      refine r_imul d_Mod_pairs_19 ?_
      refine r_iload_n 2 d_Mod_pairs_20 rfl rfl ?_
      refine r_iadd d_Mod_pairs_21 ?_
      refine r_iald 36 d_Mod_pairs_22 rfl rfl (by omega) (by omega) ?_
      rw [he.1]
      refine r_istore_n 3 d_Mod_pairs_23 rfl (by decide) rfl ?_
      refine r_aload_n 0 d_Mod_pairs_24 rfl rfl ?_
      refine r_getR 171 d_Mod_pairs_25 fk_Mod_13 rfl rfl rfl (by decide) ?_
      refine r_iload_n 3 d_Mod_pairs_28 rfl rfl ?_
      refine r_iald 12 d_Mod_pairs_29 rfl rfl (by omega) (by omega) ?_
      refine r_iconst d_Mod_pairs_30 ?_
      rw [hat.1]
      refine r_icmp_ne 50 d_Mod_pairs_31 rfl (by omega) (by omega) (fun h31 => ?_) (fun h31 => ?_)
      · refine r_aload_n 0 d_Mod_pairs_50 rfl rfl ?_
        refine r_getR 171 d_Mod_pairs_51 fk_Mod_13 rfl rfl rfl (by decide) ?_
        refine r_iload_n 3 d_Mod_pairs_54 rfl rfl ?_
        refine r_iald 12 d_Mod_pairs_55 rfl rfl (by omega) (by omega) ?_
        refine r_iconst d_Mod_pairs_56 ?_
        rw [hat.1]
        refine r_icmp_ne 96 d_Mod_pairs_57 rfl (by omega) (by omega) (fun h57 => ?_) (fun h57 => ?_)
        · refine k96 σ1 y x hw1 (hf1.pass (decide_eq_false ?_)) hy1
          rintro (⟨a, b⟩ | ⟨a, b, c⟩)
          · first | (exfalso; omega) | (obtain ⟨j, j0, j1, j2⟩ := (qa.resolve_right (fun z => by omega)).2; exact b ((mem_take i0 (by omega)).mpr ⟨j, j0, j1, j2⟩))
          · first | (exfalso; omega) | (obtain ⟨j, j0, j1, j2⟩ := (qb.resolve_right (fun z => by omega)).2; exact c (mem_gt.mpr ⟨j, j0, j1, j2⟩))
        · refine r_aload_n 0 d_Mod_pairs_60 rfl rfl ?_
          refine r_getR 177 d_Mod_pairs_61 fk_Mod_31 rfl rfl rfl (by decide) ?_
          refine r_iload_n 3 d_Mod_pairs_64 rfl rfl ?_
          refine r_iald 12 d_Mod_pairs_65 rfl rfl (by omega) (by omega) ?_
          rw [hat.2.2.2.2.2.1]
          refine r_if_lt 96 d_Mod_pairs_66 rfl (by omega) (fun h66 => ?_) (fun h66 => ?_)
          · refine k96 σ1 y x hw1 (hf1.pass (decide_eq_false ?_)) hy1
            rintro (⟨a, b⟩ | ⟨a, b, c⟩)
            · first | (exfalso; omega) | (obtain ⟨j, j0, j1, j2⟩ := (qa.resolve_right (fun z => by omega)).2; exact b ((mem_take i0 (by omega)).mpr ⟨j, j0, j1, j2⟩))
            · first | (exfalso; omega) | (obtain ⟨j, j0, j1, j2⟩ := (qb.resolve_right (fun z => by omega)).2; exact c (mem_gt.mpr ⟨j, j0, j1, j2⟩))
          · refine r_aload_n 0 d_Mod_pairs_69 rfl rfl ?_
            refine r_iload_n 1 d_Mod_pairs_70 rfl rfl ?_
            refine r_aload_n 0 d_Mod_pairs_71 rfl rfl ?_
            refine r_getR 177 d_Mod_pairs_72 fk_Mod_31 rfl rfl rfl (by decide) ?_
            refine r_iload_n 3 d_Mod_pairs_75 rfl rfl ?_
            refine r_iald 12 d_Mod_pairs_76 rfl rfl (by omega) (by omega) ?_
            rw [hat.2.2.2.2.2.1]
            refine r_iconst d_Mod_pairs_77 ?_
            refine r_aload_n 0 d_Mod_pairs_78 rfl rfl ?_
            refine r_getR 184 d_Mod_pairs_79 fk_Mod_52 rfl rfl rfl (by decide) ?_
            refine r_iload_n 1 d_Mod_pairs_82 rfl rfl ?_
            refine r_iald 3 d_Mod_pairs_83 rfl rfl (by omega) (by omega) ?_
            rw [hz.1]
            refine r_cVI 8 d_Mod_pairs_84 lk_Mod_177 vc_Mod_stands (mt_stands hQ1 v0 (by omega) (by omega) hl0 (by omega) (by omega)) rfl rfl rfl rfl ⟨Nat.le_of_ble_eq_true rfl, Nat.le_of_ble_eq_true rfl⟩ ⟨Nat.zero_le _, Nat.zero_le _⟩ (Nat.le_of_ble_eq_true rfl) (fun r84 s84 q84 => ?_)
            obtain ⟨qb, hs84⟩ := q84
            have hs84 := hs84.symm
            subst hs84
            refine r_if_ne 96 d_Mod_pairs_87 rfl (by omega) (fun h87 => ?_) (fun h87 => ?_)
            · refine k96 σ1 y x hw1 (hf1.pass (decide_eq_false ?_)) hy1
              rintro (⟨a, b⟩ | ⟨a, b, c⟩)
              · first | (exfalso; omega) | (obtain ⟨j, j0, j1, j2⟩ := (qa.resolve_right (fun z => by omega)).2; exact b ((mem_take i0 (by omega)).mpr ⟨j, j0, j1, j2⟩))
              · first | (exfalso; omega) | (obtain ⟨j, j0, j1, j2⟩ := (qb.resolve_right (fun z => by omega)).2; exact c (mem_gt.mpr ⟨j, j0, j1, j2⟩))
            · first
                | (exfalso; omega)
                | exact k90 (decide_eq_true (Or.inl ⟨by omega, fun q => by obtain ⟨j, j0, j1, j2⟩ := (mem_take i0 (by omega)).mp q; exact (qa.resolve_left (fun z => by omega)).2 j j0 j1 j2⟩))
                | exact k90 (decide_eq_true (Or.inr ⟨by omega, by omega, fun q => by obtain ⟨j, j0, j1, j2⟩ := mem_gt.mp q; exact (qb.resolve_left (fun z => by omega)).2 j j0 j1 j2⟩))
      · refine r_aload_n 0 d_Mod_pairs_34 rfl rfl ?_
        refine r_iload_n 1 d_Mod_pairs_35 rfl rfl ?_
        refine r_aload_n 0 d_Mod_pairs_36 rfl rfl ?_
        refine r_getR 177 d_Mod_pairs_37 fk_Mod_31 rfl rfl rfl (by decide) ?_
        refine r_iload_n 3 d_Mod_pairs_40 rfl rfl ?_
        refine r_iald 12 d_Mod_pairs_41 rfl rfl (by omega) (by omega) ?_
        rw [hat.2.2.2.2.2.1]
        refine r_iconst d_Mod_pairs_42 ?_
        refine r_iload_n 2 d_Mod_pairs_43 rfl rfl ?_
        refine r_cVI 8 d_Mod_pairs_44 lk_Mod_177 vc_Mod_stands (mt_stands hQ1 v0 (by omega) (by omega) i0 (by omega) (by omega)) rfl rfl rfl rfl ⟨Nat.le_of_ble_eq_true rfl, Nat.le_of_ble_eq_true rfl⟩ ⟨Nat.zero_le _, Nat.zero_le _⟩ (Nat.le_of_ble_eq_true rfl) (fun r44 s44 q44 => ?_)
        obtain ⟨qa, hs44⟩ := q44
        have hs44 := hs44.symm
        subst hs44
        refine r_if_eq 90 d_Mod_pairs_47 rfl (by omega) (fun h47 => ?_) (fun h47 => ?_)
        · first
            | (exfalso; omega)
            | exact k90 (decide_eq_true (Or.inl ⟨by omega, fun q => by obtain ⟨j, j0, j1, j2⟩ := (mem_take i0 (by omega)).mp q; exact (qa.resolve_left (fun z => by omega)).2 j j0 j1 j2⟩))
            | exact k90 (decide_eq_true (Or.inr ⟨by omega, by omega, fun q => by obtain ⟨j, j0, j1, j2⟩ := mem_gt.mp q; exact (qb.resolve_left (fun z => by omega)).2 j j0 j1 j2⟩))
        · refine r_aload_n 0 d_Mod_pairs_50 rfl rfl ?_
          refine r_getR 171 d_Mod_pairs_51 fk_Mod_13 rfl rfl rfl (by decide) ?_
          refine r_iload_n 3 d_Mod_pairs_54 rfl rfl ?_
          refine r_iald 12 d_Mod_pairs_55 rfl rfl (by omega) (by omega) ?_
          refine r_iconst d_Mod_pairs_56 ?_
          rw [hat.1]
          refine r_icmp_ne 96 d_Mod_pairs_57 rfl (by omega) (by omega) (fun h57 => ?_) (fun h57 => ?_)
          · refine k96 σ1 y x hw1 (hf1.pass (decide_eq_false ?_)) hy1
            rintro (⟨a, b⟩ | ⟨a, b, c⟩)
            · first | (exfalso; omega) | (obtain ⟨j, j0, j1, j2⟩ := (qa.resolve_right (fun z => by omega)).2; exact b ((mem_take i0 (by omega)).mpr ⟨j, j0, j1, j2⟩))
            · first | (exfalso; omega) | (obtain ⟨j, j0, j1, j2⟩ := (qb.resolve_right (fun z => by omega)).2; exact c (mem_gt.mpr ⟨j, j0, j1, j2⟩))
          · refine r_aload_n 0 d_Mod_pairs_60 rfl rfl ?_
            refine r_getR 177 d_Mod_pairs_61 fk_Mod_31 rfl rfl rfl (by decide) ?_
            refine r_iload_n 3 d_Mod_pairs_64 rfl rfl ?_
            refine r_iald 12 d_Mod_pairs_65 rfl rfl (by omega) (by omega) ?_
            rw [hat.2.2.2.2.2.1]
            refine r_if_lt 96 d_Mod_pairs_66 rfl (by omega) (fun h66 => ?_) (fun h66 => ?_)
            · refine k96 σ1 y x hw1 (hf1.pass (decide_eq_false ?_)) hy1
              rintro (⟨a, b⟩ | ⟨a, b, c⟩)
              · first | (exfalso; omega) | (obtain ⟨j, j0, j1, j2⟩ := (qa.resolve_right (fun z => by omega)).2; exact b ((mem_take i0 (by omega)).mpr ⟨j, j0, j1, j2⟩))
              · first | (exfalso; omega) | (obtain ⟨j, j0, j1, j2⟩ := (qb.resolve_right (fun z => by omega)).2; exact c (mem_gt.mpr ⟨j, j0, j1, j2⟩))
            · refine r_aload_n 0 d_Mod_pairs_69 rfl rfl ?_
              refine r_iload_n 1 d_Mod_pairs_70 rfl rfl ?_
              refine r_aload_n 0 d_Mod_pairs_71 rfl rfl ?_
              refine r_getR 177 d_Mod_pairs_72 fk_Mod_31 rfl rfl rfl (by decide) ?_
              refine r_iload_n 3 d_Mod_pairs_75 rfl rfl ?_
              refine r_iald 12 d_Mod_pairs_76 rfl rfl (by omega) (by omega) ?_
              rw [hat.2.2.2.2.2.1]
              refine r_iconst d_Mod_pairs_77 ?_
              refine r_aload_n 0 d_Mod_pairs_78 rfl rfl ?_
              refine r_getR 184 d_Mod_pairs_79 fk_Mod_52 rfl rfl rfl (by decide) ?_
              refine r_iload_n 1 d_Mod_pairs_82 rfl rfl ?_
              refine r_iald 3 d_Mod_pairs_83 rfl rfl (by omega) (by omega) ?_
              rw [hz.1]
              refine r_cVI 8 d_Mod_pairs_84 lk_Mod_177 vc_Mod_stands (mt_stands hQ1 v0 (by omega) (by omega) hl0 (by omega) (by omega)) rfl rfl rfl rfl ⟨Nat.le_of_ble_eq_true rfl, Nat.le_of_ble_eq_true rfl⟩ ⟨Nat.zero_le _, Nat.zero_le _⟩ (Nat.le_of_ble_eq_true rfl) (fun r84 s84 q84 => ?_)
              obtain ⟨qb, hs84⟩ := q84
              have hs84 := hs84.symm
              subst hs84
              refine r_if_ne 96 d_Mod_pairs_87 rfl (by omega) (fun h87 => ?_) (fun h87 => ?_)
              · refine k96 σ1 y x hw1 (hf1.pass (decide_eq_false ?_)) hy1
                rintro (⟨a, b⟩ | ⟨a, b, c⟩)
                · first | (exfalso; omega) | (obtain ⟨j, j0, j1, j2⟩ := (qa.resolve_right (fun z => by omega)).2; exact b ((mem_take i0 (by omega)).mpr ⟨j, j0, j1, j2⟩))
                · first | (exfalso; omega) | (obtain ⟨j, j0, j1, j2⟩ := (qb.resolve_right (fun z => by omega)).2; exact c (mem_gt.mpr ⟨j, j0, j1, j2⟩))
              · first
                  | (exfalso; omega)
                  | exact k90 (decide_eq_true (Or.inl ⟨by omega, fun q => by obtain ⟨j, j0, j1, j2⟩ := (mem_take i0 (by omega)).mp q; exact (qa.resolve_left (fun z => by omega)).2 j j0 j1 j2⟩))
                  | exact k90 (decide_eq_true (Or.inr ⟨by omega, by omega, fun q => by obtain ⟨j, j0, j1, j2⟩ := mem_gt.mp q; exact (qb.resolve_left (fun z => by omega)).2 j j0 j1 j2⟩))
  refine cv_of [vR 169, vI v, vU, vU] fy_Mod_pairs.1 rfl (Nat.le_of_ble_eq_true rfl) ?_
  refine r_iconst d_Mod_pairs_0 ?_
  refine r_istore_n 2 d_Mod_pairs_1 rfl (by decide) rfl ?_
  exact key 0 (by omega) hl0 σ 0 (-1) hw (FI.zero (Or.inl rfl)) (fun _ _ _ => rfl)
theorem mt_loads {σ D : sto} {ns nv v : Int} {P : pln} (hC : DR σ D ns nv) (hO : DOK D ns nv) (hQ : RA σ P) (v0 : 0 ≤ v) (v1 : v < nv) (hl : RV ns (P v)) {y0 x0 : Int} (hw : WY σ y0 x0) (hy0 : 0 ≤ y0 ∧ y0 ≤ 4) : CV M_Mod_loads 1 [vR 169, vI v] σ (fun σ' => ∃ y1 x1 y x, (y0 ≠ 0 ∧ y1 = y0 ∧ x1 = x0 ∨ y0 = 0 ∧ D 8 v < ld0 D (P v) ∧ y1 = 2 ∧ x1 = -1 ∨ y0 = 0 ∧ ld0 D (P v) ≤ D 8 v ∧ y1 = 0 ∧ x1 = x0) ∧ WY σ' y x ∧ FI (pr2 D v (P v)) 2 y1 x1 (ln (P v)) y x ∧ (∀ j, 0 ≤ j → j < ln (P v) → σ' 195 j = lda D (P v) (j + 1)) ∧ ∀ c i : Int, (c ≠ 169 ∨ i ≠ 30 ∧ i ≠ 31) → c ≠ 195 → σ' c i = σ c i) := by
  have hn := hO.1
  have hl0 := ln0 (P v)
  have hvan := hC.van v0 (show v < 3 by omega)
  have hdv := hO.2.2.2.1 v v0 v1
  have hld := ld0_in hO hl (P v).length (Int.le_refl _)
  have hld0 : ld0N D (P v) (P v).length = ld0 D (P v) := rfl
  have hlen : ((P v).length : Int) = ln (P v) := rfl
  have hl12 := hl.1
  have L2 : ∀ (y1 x1 : Int), (y0 ≠ 0 ∧ y1 = y0 ∧ x1 = x0 ∨ y0 = 0 ∧ D 8 v < ld0 D (P v) ∧ y1 = 2 ∧ x1 = -1 ∨ y0 = 0 ∧ ld0 D (P v) ≤ D 8 v ∧ y1 = 0 ∧ x1 = x0) → ∀ i, 0 ≤ i → i ≤ ln (P v) → ∀ (σ1 : sto) (y x : Int), WY σ1 y x → FI (pr2 D v (P v)) 2 y1 x1 i y x → (∀ j, 0 ≤ j → j < i → σ1 195 j = lda D (P v) (j + 1)) → (∀ c i : Int, (c ≠ 169 ∨ i ≠ 30 ∧ i ≠ 31) → c ≠ 195 → σ1 c i = σ c i) → Run M_Mod_loads (rxV 1 (fun σ' => ∃ y1 x1 y x, (y0 ≠ 0 ∧ y1 = y0 ∧ x1 = x0 ∨ y0 = 0 ∧ D 8 v < ld0 D (P v) ∧ y1 = 2 ∧ x1 = -1 ∨ y0 = 0 ∧ ld0 D (P v) ≤ D 8 v ∧ y1 = 0 ∧ x1 = x0) ∧ WY σ' y x ∧ FI (pr2 D v (P v)) 2 y1 x1 (ln (P v)) y x ∧ (∀ j, 0 ≤ j → j < ln (P v) → σ' 195 j = lda D (P v) (j + 1)) ∧ ∀ c i : Int, (c ≠ 169 ∨ i ≠ 30 ∧ i ≠ 31) → c ≠ 195 → σ' c i = σ c i)) (0, 0) 87 [vR 169, vI v, vI (lda D (P v) i), vI i, vU] [] (sg σ1) := by
    intro y1 x1 h1
    refine up_ind (b := ln (P v)) ?_ ?_
    · intro σ1 y x hw1 hf1 ha hF
      have hz := (hQ.keep (σ' := σ1) (fun c i q => hF c i (by omega) (by omega))).len v0 (show v < 3 by omega)
      refine r_iload_n 3 d_Mod_loads_87 rfl rfl ?_
      refine r_aload_n 0 d_Mod_loads_88 rfl rfl ?_
      refine r_getR 184 d_Mod_loads_89 fk_Mod_52 rfl rfl rfl (by decide) ?_
      refine r_iload_n 1 d_Mod_loads_92 rfl rfl ?_
      refine r_iald 3 d_Mod_loads_93 rfl rfl (by omega) (by omega) ?_
      rw [hz.1]
      refine r_icmp_ge 171 d_Mod_loads_94 rfl (by omega) (by omega) (fun h94 => ?_) (fun h94 => absurd h94 (by omega))
      refine q_vret d_Mod_loads_171 rfl ?_
      exact ⟨y1, x1, y, x, h1, hw1, hf1, ha, hF⟩
    · intro i i0 i1 ih σ1 y x hw1 hf1 ha hF
      have hC1 := hC.keep (σ' := σ1) (fun c i q => hF c i (by omega) (by omega))
      have hQ1 := hQ.keep (σ' := σ1) (fun c i q => hF c i (by omega) (by omega))
      have hz := hQ1.len v0 (show v < 3 by omega)
      have he := hQ1.el v0 (show v < 3 by omega) i0 i1
      have hr := hl.2 i i0 i1
      have hat := hC1.at hr.1 (by omega)
      have ham := hC1.am hr.1 hr.2
      have hd := hO.2.1 _ hr.1 hr.2
      have hyr := hf1.yr (by omega) (by omega)
      have hls := lda_s (D := D) (l := P v) i0
      have hli := lda_in hO hl (i := i + 1) (by omega) (by omega)
      have hvan1 := hC1.van v0 (show v < 3 by omega)
      have k165 : ∀ (σ1 : sto) (y x : Int), WY σ1 y x → FI (pr2 D v (P v)) 2 y1 x1 (i + 1) y x → (∀ j, 0 ≤ j → j < i + 1 → σ1 195 j = lda D (P v) (j + 1)) → (∀ c i : Int, (c ≠ 169 ∨ i ≠ 30 ∧ i ≠ 31) → c ≠ 195 → σ1 c i = σ c i) → Run M_Mod_loads (rxV 1 (fun σ' => ∃ y1 x1 y x, (y0 ≠ 0 ∧ y1 = y0 ∧ x1 = x0 ∨ y0 = 0 ∧ D 8 v < ld0 D (P v) ∧ y1 = 2 ∧ x1 = -1 ∨ y0 = 0 ∧ ld0 D (P v) ≤ D 8 v ∧ y1 = 0 ∧ x1 = x0) ∧ WY σ' y x ∧ FI (pr2 D v (P v)) 2 y1 x1 (ln (P v)) y x ∧ (∀ j, 0 ≤ j → j < ln (P v) → σ' 195 j = lda D (P v) (j + 1)) ∧ ∀ c i : Int, (c ≠ 169 ∨ i ≠ 30 ∧ i ≠ 31) → c ≠ 195 → σ' c i = σ c i)) (0, 0) 165 [vR 169, vI v, vI (lda D (P v) (i + 1)), vI i, vI (gt (P v) i)] [] (sg σ1) := by
        intro σ1 y x hw1 hf1 ha hF
        refine r_iinc 3 d_Mod_loads_165 rfl (by decide) rfl ?_
        refine r_goto 87 d_Mod_loads_168 rfl ?_
        exact r_drop 4 (ih σ1 y x hw1 hf1 ha hF)
      have k142 : Run M_Mod_loads (rxV 1 (fun σ' => ∃ y1 x1 y x, (y0 ≠ 0 ∧ y1 = y0 ∧ x1 = x0 ∨ y0 = 0 ∧ D 8 v < ld0 D (P v) ∧ y1 = 2 ∧ x1 = -1 ∨ y0 = 0 ∧ ld0 D (P v) ≤ D 8 v ∧ y1 = 0 ∧ x1 = x0) ∧ WY σ' y x ∧ FI (pr2 D v (P v)) 2 y1 x1 (ln (P v)) y x ∧ (∀ j, 0 ≤ j → j < ln (P v) → σ' 195 j = lda D (P v) (j + 1)) ∧ ∀ c i : Int, (c ≠ 169 ∨ i ≠ 30 ∧ i ≠ 31) → c ≠ 195 → σ' c i = σ c i)) (0, 0) 142 [vR 169, vI v, vI (lda D (P v) (i + 1)), vI i, vI (gt (P v) i)] [] (sg σ1) := by
        have hA : ∀ j, 0 ≤ j → j < i + 1 → wr σ1 195 i (lda D (P v) (i + 1)) 195 j = lda D (P v) (j + 1) := fun j j0 j1 => by
          by_cases e : j = i
          · rw [e, wr_eq]
          · rw [wr_ne (Or.inr e)]; exact ha j j0 (by omega)
        have hw2 : WY (wr σ1 195 i (lda D (P v) (i + 1))) y x := ⟨by rw [wr_ne (by omega)]; exact hw1.1, by rw [wr_ne (by omega)]; exact hw1.2⟩
        have hv2 : wr σ1 195 i (lda D (P v) (i + 1)) 179 v = D 8 v := by rw [wr_ne (by omega)]; exact hvan1.1
        refine r_aload_n 0 d_Mod_loads_142 rfl rfl ?_
        refine r_getR 195 d_Mod_loads_143 fk_Mod_86 rfl rfl rfl (by decide) ?_
        refine r_iload_n 3 d_Mod_loads_146 rfl rfl ?_
        refine r_iload_n 2 d_Mod_loads_147 rfl rfl ?_
        refine r_iast 12 d_Mod_loads_148 rfl rfl (by omega) (by omega) ?_
        refine r_iload_n 2 d_Mod_loads_149 rfl rfl ?_
        refine r_aload_n 0 d_Mod_loads_150 rfl rfl ?_
        refine r_getR 179 d_Mod_loads_151 fk_Mod_37 rfl rfl rfl (by decide) ?_
        refine r_iload_n 1 d_Mod_loads_154 rfl rfl ?_
        refine r_iald 3 d_Mod_loads_155 rfl rfl (by omega) (by omega) ?_
        rw [hv2]
        refine r_icmp_le 165 d_Mod_loads_156 rfl (by omega) (by omega) (fun h156 => ?_) (fun h156 => ?_)
        · first
            | exact k165 _ y x hw2 (hf1.pass (decide_eq_false (by omega))) hA (fun c i q1 q2 => by rw [wr_ne (by omega)]; exact hF c i q1 q2)
            | exact k165 _ y2 x2 w2 f2 (fun j j0 j1 => by rw [qy 195 j (by omega)]; exact hA j j0 j1) (fun c i q1 q2 => by rw [qy c i q1, wr_ne (by omega)]; exact hF c i q1 q2)
        · refine r_aload_n 0 d_Mod_loads_159 rfl rfl ?_
          refine r_iconst d_Mod_loads_160 ?_
          refine r_iload_n 3 d_Mod_loads_161 rfl rfl ?_
          refine r_cVV 8 d_Mod_loads_162 lk_Mod_181 vc_Mod_fails (mt_fails hw2 (by omega)) rfl rfl rfl rfl ⟨Nat.le_of_ble_eq_true rfl, Nat.le_of_ble_eq_true rfl⟩ ⟨Nat.zero_le _, Nat.zero_le _⟩ (Nat.le_of_ble_eq_true rfl) (fun s162 q162 => ?_)
          obtain ⟨q162, qy⟩ := q162
          obtain ⟨y2, x2, f2, w2⟩ := hf1.fail i0 (by omega) (decide_eq_true (by omega)) q162
          first
            | exact k165 _ y x hw2 (hf1.pass (decide_eq_false (by omega))) hA (fun c i q1 q2 => by rw [wr_ne (by omega)]; exact hF c i q1 q2)
            | exact k165 _ y2 x2 w2 f2 (fun j j0 j1 => by rw [qy 195 j (by omega)]; exact hA j j0 j1) (fun c i q1 q2 => by rw [qy c i q1, wr_ne (by omega)]; exact hF c i q1 q2)
      refine r_iload_n 3 d_Mod_loads_87 rfl rfl ?_
      refine r_aload_n 0 d_Mod_loads_88 rfl rfl ?_
      refine r_getR 184 d_Mod_loads_89 fk_Mod_52 rfl rfl rfl (by decide) ?_
      refine r_iload_n 1 d_Mod_loads_92 rfl rfl ?_
      refine r_iald 3 d_Mod_loads_93 rfl rfl (by omega) (by omega) ?_
      rw [hz.1]
      refine r_icmp_ge 171 d_Mod_loads_94 rfl (by omega) (by omega) (fun h94 => absurd h94 (by omega)) (fun h94 => ?_)
      refine r_aload_n 0 d_Mod_loads_97 rfl rfl ?_
      refine r_getR 183 d_Mod_loads_98 fk_Mod_49 rfl rfl rfl (by decide) ?_
      refine r_bipush d_Mod_loads_101 (by decide) ?_
      refine r_iload_n 1 d_Mod_loads_103 rfl rfl ?_
      refine r_imul d_Mod_loads_104 ?_
      refine r_iload_n 3 d_Mod_loads_105 rfl rfl ?_
      refine r_iadd d_Mod_loads_106 ?_
      refine r_iald 36 d_Mod_loads_107 rfl rfl (by omega) (by omega) ?_
      rw [he.1]
      refine r_istore 4 d_Mod_loads_108 (by decide) rfl ?_
      refine r_iload_n 2 d_Mod_loads_110 rfl rfl ?_
      refine r_aload_n 0 d_Mod_loads_111 rfl rfl ?_
      refine r_getR 171 d_Mod_loads_112 fk_Mod_13 rfl rfl rfl (by decide) ?_
      refine r_iload 4 d_Mod_loads_115 rfl ?_
      refine r_iald 12 d_Mod_loads_117 rfl rfl (by omega) (by omega) ?_
      refine r_iconst d_Mod_loads_118 ?_
      rw [hat.1]
      refine r_icmp_ne 132 d_Mod_loads_119 rfl (by omega) (by omega) (fun h119 => ?_) (fun h119 => ?_)
      · rw [if_neg h119] at hls
        refine r_aload_n 0 d_Mod_loads_132 rfl rfl ?_
        refine r_getR 176 d_Mod_loads_133 fk_Mod_28 rfl rfl rfl (by decide) ?_
        refine r_iload 4 d_Mod_loads_136 rfl ?_
        refine r_iald 12 d_Mod_loads_138 rfl rfl (by omega) (by omega) ?_
        rw [ham]
        refine r_ineg d_Mod_loads_139 ?_
        refine r_iadd d_Mod_loads_140 ?_
        rw [← hls]
        refine r_istore_n 2 d_Mod_loads_141 rfl (by decide) rfl ?_
        exact k142
      · rw [if_pos (show D 0 (gt (P v) i) = 1 by omega)] at hls
        refine r_aload_n 0 d_Mod_loads_122 rfl rfl ?_
        refine r_getR 176 d_Mod_loads_123 fk_Mod_28 rfl rfl rfl (by decide) ?_
        refine r_iload 4 d_Mod_loads_126 rfl ?_
        refine r_iald 12 d_Mod_loads_128 rfl rfl (by omega) (by omega) ?_
        rw [ham]
        refine r_goto 140 d_Mod_loads_129 rfl ?_
        refine r_iadd d_Mod_loads_140 ?_
        rw [← hls]
        refine r_istore_n 2 d_Mod_loads_141 rfl (by decide) rfl ?_
        exact k142
  have k85 : ∀ (σ1 : sto) (y1 x1 : Int), (y0 ≠ 0 ∧ y1 = y0 ∧ x1 = x0 ∨ y0 = 0 ∧ D 8 v < ld0 D (P v) ∧ y1 = 2 ∧ x1 = -1 ∨ y0 = 0 ∧ ld0 D (P v) ≤ D 8 v ∧ y1 = 0 ∧ x1 = x0) → WY σ1 y1 x1 → YF σ σ1 → Run M_Mod_loads (rxV 1 (fun σ' => ∃ y1 x1 y x, (y0 ≠ 0 ∧ y1 = y0 ∧ x1 = x0 ∨ y0 = 0 ∧ D 8 v < ld0 D (P v) ∧ y1 = 2 ∧ x1 = -1 ∨ y0 = 0 ∧ ld0 D (P v) ≤ D 8 v ∧ y1 = 0 ∧ x1 = x0) ∧ WY σ' y x ∧ FI (pr2 D v (P v)) 2 y1 x1 (ln (P v)) y x ∧ (∀ j, 0 ≤ j → j < ln (P v) → σ' 195 j = lda D (P v) (j + 1)) ∧ ∀ c i : Int, (c ≠ 169 ∨ i ≠ 30 ∧ i ≠ 31) → c ≠ 195 → σ' c i = σ c i)) (0, 0) 85 [vR 169, vI v, vI (ld0 D (P v)), vI (ln (P v)), vU] [] (sg σ1) := by
    intro σ1 y1 x1 h1 hw1 hy1
    refine r_iconst d_Mod_loads_85 ?_
    refine r_istore_n 3 d_Mod_loads_86 rfl (by decide) rfl ?_
    exact L2 y1 x1 h1 0 (by omega) hl0 σ1 y1 x1 hw1 (FI.zero (by omega)) (fun j j0 j1 => by omega) (fun c i q1 q2 => hy1 c i q1)
  have L1 : ∀ i, 0 ≤ i → i ≤ ln (P v) → Run M_Mod_loads (rxV 1 (fun σ' => ∃ y1 x1 y x, (y0 ≠ 0 ∧ y1 = y0 ∧ x1 = x0 ∨ y0 = 0 ∧ D 8 v < ld0 D (P v) ∧ y1 = 2 ∧ x1 = -1 ∨ y0 = 0 ∧ ld0 D (P v) ≤ D 8 v ∧ y1 = 0 ∧ x1 = x0) ∧ WY σ' y x ∧ FI (pr2 D v (P v)) 2 y1 x1 (ln (P v)) y x ∧ (∀ j, 0 ≤ j → j < ln (P v) → σ' 195 j = lda D (P v) (j + 1)) ∧ ∀ c i : Int, (c ≠ 169 ∨ i ≠ 30 ∧ i ≠ 31) → c ≠ 195 → σ' c i = σ c i)) (0, 0) 4 [vR 169, vI v, vI (ld0N D (P v) i.toNat), vI i, vU] [] (sg σ) := by
    have hz := hQ.len v0 (show v < 3 by omega)
    refine up_ind (b := ln (P v)) ?_ ?_
    · rw [show (ln (P v)).toNat = (P v).length by unfold ln; omega, hld0]
      refine r_iload_n 3 d_Mod_loads_4 rfl rfl ?_
      refine r_aload_n 0 d_Mod_loads_5 rfl rfl ?_
      refine r_getR 184 d_Mod_loads_6 fk_Mod_52 rfl rfl rfl (by decide) ?_
      refine r_iload_n 1 d_Mod_loads_9 rfl rfl ?_
      refine r_iald 3 d_Mod_loads_10 rfl rfl (by omega) (by omega) ?_
      rw [hz.1]
      refine r_icmp_ge 69 d_Mod_loads_11 rfl (by omega) (by omega) (fun h11 => ?_) (fun h11 => absurd h11 (by omega))
      refine r_iload_n 2 d_Mod_loads_69 rfl rfl ?_
      refine r_aload_n 0 d_Mod_loads_70 rfl rfl ?_
      refine r_getR 179 d_Mod_loads_71 fk_Mod_37 rfl rfl rfl (by decide) ?_
      refine r_iload_n 1 d_Mod_loads_74 rfl rfl ?_
      refine r_iald 3 d_Mod_loads_75 rfl rfl (by omega) (by omega) ?_
      rw [hvan.1]
      refine r_icmp_le 85 d_Mod_loads_76 rfl (by omega) (by omega) (fun h76 => ?_) (fun h76 => ?_)
      · first
          | (rcases q82 with ⟨z1, z2⟩ | ⟨z1, z2⟩
             · exact k85 _ 2 (-1) (by omega) z2 qy
             · exact k85 _ y0 x0 (by omega) z2 qy)
          | exact k85 σ y0 x0 (by omega) hw (fun _ _ _ => rfl)
      · refine r_aload_n 0 d_Mod_loads_79 rfl rfl ?_
        refine r_iconst d_Mod_loads_80 ?_
        refine r_iconst d_Mod_loads_81 ?_
        refine r_cVV 8 d_Mod_loads_82 lk_Mod_181 vc_Mod_fails (mt_fails hw (by omega)) rfl rfl rfl rfl ⟨Nat.le_of_ble_eq_true rfl, Nat.le_of_ble_eq_true rfl⟩ ⟨Nat.zero_le _, Nat.zero_le _⟩ (Nat.le_of_ble_eq_true rfl) (fun s82 q82 => ?_)
        obtain ⟨q82, qy⟩ := q82
        first
          | (rcases q82 with ⟨z1, z2⟩ | ⟨z1, z2⟩
             · exact k85 _ 2 (-1) (by omega) z2 qy
             · exact k85 _ y0 x0 (by omega) z2 qy)
          | exact k85 σ y0 x0 (by omega) hw (fun _ _ _ => rfl)
    · intro i i0 i1 ih
      have he := hQ.el v0 (show v < 3 by omega) i0 i1
      have hr := hl.2 i i0 i1
      have hat := hC.at hr.1 (by omega)
      have ham := hC.am hr.1 hr.2
      have hd := hO.2.1 _ hr.1 hr.2
      have hls := ld0_s (D := D) (l := P v) i0
      rw [hls] at ih
      refine r_iload_n 3 d_Mod_loads_4 rfl rfl ?_
      refine r_aload_n 0 d_Mod_loads_5 rfl rfl ?_
      refine r_getR 184 d_Mod_loads_6 fk_Mod_52 rfl rfl rfl (by decide) ?_
      refine r_iload_n 1 d_Mod_loads_9 rfl rfl ?_
      refine r_iald 3 d_Mod_loads_10 rfl rfl (by omega) (by omega) ?_
      rw [hz.1]
      refine r_icmp_ge 69 d_Mod_loads_11 rfl (by omega) (by omega) (fun h11 => absurd h11 (by omega)) (fun h11 => ?_)
      refine r_aload_n 0 d_Mod_loads_14 rfl rfl ?_
      refine r_getR 183 d_Mod_loads_15 fk_Mod_49 rfl rfl rfl (by decide) ?_
      refine r_bipush d_Mod_loads_18 (by decide) ?_
      refine r_iload_n 1 d_Mod_loads_20 rfl rfl ?_
      refine r_imul d_Mod_loads_21 ?_
      refine r_iload_n 3 d_Mod_loads_22 rfl rfl ?_
      refine r_iadd d_Mod_loads_23 ?_
      refine r_iald 36 d_Mod_loads_24 rfl rfl (by omega) (by omega) ?_
      rw [he.1]
      refine r_istore 4 d_Mod_loads_25 (by decide) rfl ?_
      refine r_iload_n 2 d_Mod_loads_27 rfl rfl ?_
      refine r_aload_n 0 d_Mod_loads_28 rfl rfl ?_
      refine r_getR 171 d_Mod_loads_29 fk_Mod_13 rfl rfl rfl (by decide) ?_
      refine r_iload 4 d_Mod_loads_32 rfl ?_
      refine r_iald 12 d_Mod_loads_34 rfl rfl (by omega) (by omega) ?_
      refine r_iconst d_Mod_loads_35 ?_
      rw [hat.1]
      refine r_icmp_eq 50 d_Mod_loads_36 rfl (by omega) (by omega) (fun h36 => ?_) (fun h36 => ?_)
      · rw [if_pos (show D 0 (gt (P v) i) = 1 ∨ D 0 (gt (P v) i) = 2 by omega)] at ih
        refine r_iconst d_Mod_loads_50 ?_
        refine r_goto 61 d_Mod_loads_51 rfl ?_
        refine r_iadd d_Mod_loads_61 ?_
        refine r_istore_n 2 d_Mod_loads_62 rfl (by decide) rfl ?_
        refine r_iinc 3 d_Mod_loads_63 rfl (by decide) rfl ?_
        refine r_goto 4 d_Mod_loads_66 rfl ?_
        exact r_drop 4 ih
      · refine r_aload_n 0 d_Mod_loads_39 rfl rfl ?_
        refine r_getR 171 d_Mod_loads_40 fk_Mod_13 rfl rfl rfl (by decide) ?_
        refine r_iload 4 d_Mod_loads_43 rfl ?_
        refine r_iald 12 d_Mod_loads_45 rfl rfl (by omega) (by omega) ?_
        refine r_iconst d_Mod_loads_46 ?_
        rw [hat.1]
        refine r_icmp_ne 54 d_Mod_loads_47 rfl (by omega) (by omega) (fun h47 => ?_) (fun h47 => ?_)
        · rw [if_neg (show ¬ (D 0 (gt (P v) i) = 1 ∨ D 0 (gt (P v) i) = 2) by omega)] at ih
          refine r_aload_n 0 d_Mod_loads_54 rfl rfl ?_
          refine r_getR 176 d_Mod_loads_55 fk_Mod_28 rfl rfl rfl (by decide) ?_
          refine r_iload 4 d_Mod_loads_58 rfl ?_
          refine r_iald 12 d_Mod_loads_60 rfl rfl (by omega) (by omega) ?_
          rw [ham]
          refine r_iadd d_Mod_loads_61 ?_
          refine r_istore_n 2 d_Mod_loads_62 rfl (by decide) rfl ?_
          refine r_iinc 3 d_Mod_loads_63 rfl (by decide) rfl ?_
          refine r_goto 4 d_Mod_loads_66 rfl ?_
          exact r_drop 4 ih
        · rw [if_pos (show D 0 (gt (P v) i) = 1 ∨ D 0 (gt (P v) i) = 2 by omega)] at ih
          refine r_iconst d_Mod_loads_50 ?_
          refine r_goto 61 d_Mod_loads_51 rfl ?_
          refine r_iadd d_Mod_loads_61 ?_
          refine r_istore_n 2 d_Mod_loads_62 rfl (by decide) rfl ?_
          refine r_iinc 3 d_Mod_loads_63 rfl (by decide) rfl ?_
          refine r_goto 4 d_Mod_loads_66 rfl ?_
          exact r_drop 4 ih
  refine cv_of [vR 169, vI v, vU, vU, vU] fy_Mod_loads.1 rfl (Nat.le_of_ble_eq_true rfl) ?_
  refine r_iconst d_Mod_loads_0 ?_
  refine r_istore_n 2 d_Mod_loads_1 rfl (by decide) rfl ?_
  refine r_iconst d_Mod_loads_2 ?_
  refine r_istore_n 3 d_Mod_loads_3 rfl (by decide) rfl ?_
  exact L1 0 (by omega) hl0
