-- THE REFERENCE: isLess, weighs (walks written by wip/whole/gen_rls.py)
theorem dg_eq {ns : Int} {l m : List Int} {n : Int} (hn : ns ≤ 12) (hl : RV ns l) (hm : RV ns m) (l1 : ln l ≤ n) (m1 : ln m ≤ n) (h : ∀ j, 0 ≤ j → j < n + 1 → dg l j = dg m j) : l = m := by
  have key : ∀ j, 0 ≤ j → dg l j = dg m j := fun j j0 => by
    by_cases e : j < n + 1
    · exact h j j0 e
    · unfold dg; rw [if_neg (by omega), if_neg (by omega)]
  exact lxl_tri hn hl hm (fun ⟨i, i0, _, i2⟩ => by have := key i i0; omega) (fun ⟨i, i0, _, i2⟩ => by have := key i i0; omega)
theorem mt_isLess {σ D : sto} {ns nv : Int} {P Q : pln} (hC : DR σ D ns nv) (hn : 0 ≤ ns ∧ ns ≤ 12 ∧ 0 ≤ nv ∧ nv ≤ 3) (hQ : RA σ P) (hA : AP σ 187 0 Q) (hP : RVP ns P) (hR : RVP ns Q) : CI M_Mod_isLess 0 [vR 169] σ (fun r σ' => (r = 1 ∧ lxp nv P Q ∨ r = 0 ∧ ¬ lxp nv P Q) ∧ σ' = σ) := by
  have h14 := hC.2.1
  have key : ∀ v, 0 ≤ v → v ≤ nv → (∀ u, 0 ≤ u → u < v → P u = Q u) → Run M_Mod_isLess (rxI 0 (fun r σ' => (r = 1 ∧ lxp nv P Q ∨ r = 0 ∧ ¬ lxp nv P Q) ∧ σ' = σ)) (0, 0) 2 [vR 169, vI v, vU, vU, vU, vU] [] (sg σ) := by
    refine up_ind (b := nv) ?_ ?_
    · intro hu
      refine r_iload_n 1 d_Mod_isLess_2 rfl rfl ?_
      refine r_aload_n 0 d_Mod_isLess_3 rfl rfl ?_
      refine r_getI 14 d_Mod_isLess_4 fk_Mod_105 rfl rfl rfl ?_
      rw [h14]
      refine r_icmp_ge 145 d_Mod_isLess_7 rfl (by omega) (by omega) (fun h7 => ?_) (fun h7 => absurd h7 (by omega))
      refine r_iconst d_Mod_isLess_145 ?_
      refine q_zret d_Mod_isLess_146 rfl (by omega) ?_
      refine ⟨Or.inr ⟨rfl, ?_⟩, rfl⟩
      rintro ⟨v, v0, v1, -, z⟩
      rw [hu v v0 v1] at z
      exact lxl_ir z
    · intro v v0 v1 ihv hu
      have hz := hQ.len v0 (show v < 3 by omega)
      obtain ⟨y1, y2, y3⟩ := hA v v0 (by omega)
      have hlq := ln0 (Q v)
      have ha36 : σ 187 (36 + v) = ln (Q v) := by rw [show 36 + v = 0 + 36 + v by omega]; exact y1
      have LI : ∀ n : Int, ln (P v) ≤ n → ln (Q v) ≤ n → n ≤ 12 → ∀ i, 0 ≤ i → i ≤ n + 1 → (∀ j, 0 ≤ j → j < i → dg (P v) j = dg (Q v) j) → Run M_Mod_isLess (rxI 0 (fun r σ' => (r = 1 ∧ lxp nv P Q ∨ r = 0 ∧ ¬ lxp nv P Q) ∧ σ' = σ)) (0, 0) 49 [vR 169, vI v, vI n, vI i, vU, vU] [] (sg σ) := by
        intro n n0 n1 n2
        refine up_ind (b := n + 1) ?_ ?_
        · intro hd
          have heq := dg_eq hn.2.1 (hP v v0 (by omega)) (hR v v0 (by omega)) n0 n1 hd
          refine r_iload_n 3 d_Mod_isLess_49 rfl rfl ?_
          refine r_iload_n 2 d_Mod_isLess_50 rfl rfl ?_
          refine r_icmp_gt 139 d_Mod_isLess_51 rfl (by omega) (by omega) (fun h51 => ?_) (fun h51 => absurd h51 (by omega))
          refine r_iinc 1 d_Mod_isLess_139 rfl (by decide) rfl ?_
          refine r_goto 2 d_Mod_isLess_142 rfl ?_
          refine r_drop 2 (r_drop 3 (ihv (fun u u0 u1 => ?_)))
          by_cases e : u = v
          · rw [e]; exact heq
          · exact hu u u0 (by omega)
        · intro i i0 i1 ihi hd
          refine r_iload_n 3 d_Mod_isLess_49 rfl rfl ?_
          refine r_iload_n 2 d_Mod_isLess_50 rfl rfl ?_
          refine r_icmp_gt 139 d_Mod_isLess_51 rfl (by omega) (by omega) (fun h51 => absurd h51 (by omega)) (fun h51 => ?_)
          refine r_iload_n 3 d_Mod_isLess_54 rfl rfl ?_
          refine r_aload_n 0 d_Mod_isLess_55 rfl rfl ?_
          refine r_getR 184 d_Mod_isLess_56 fk_Mod_52 rfl rfl rfl (by decide) ?_
          refine r_iload_n 1 d_Mod_isLess_59 rfl rfl ?_
          refine r_iald 3 d_Mod_isLess_60 rfl rfl (by omega) (by omega) ?_
          rw [hz.1]
          refine r_icmp_ge 78 d_Mod_isLess_61 rfl (by omega) (by omega) (fun h61 => ?_) (fun h61 => ?_)
          · have da : dg (P v) i = 99 := if_neg (by omega)
            refine r_bipush d_Mod_isLess_78 (by decide) ?_
            refine r_istore 4 d_Mod_isLess_80 (by decide) rfl ?_
            refine r_iload_n 3 d_Mod_isLess_82 rfl rfl ?_
            refine r_aload_n 0 d_Mod_isLess_83 rfl rfl ?_
            refine r_getR 187 d_Mod_isLess_84 fk_Mod_61 rfl rfl rfl (by decide) ?_
            refine r_bipush d_Mod_isLess_87 (by decide) ?_
            refine r_iload_n 1 d_Mod_isLess_89 rfl rfl ?_
            refine r_iadd d_Mod_isLess_90 ?_
            refine r_iald 39 d_Mod_isLess_91 rfl rfl (by omega) (by omega) ?_
            rw [ha36]
            refine r_icmp_ge 109 d_Mod_isLess_92 rfl (by omega) (by omega) (fun h92 => ?_) (fun h92 => ?_)
            · have db : dg (Q v) i = 99 := if_neg (by omega)
              refine r_bipush d_Mod_isLess_109 (by decide) ?_
              refine r_istore 5 d_Mod_isLess_111 (by decide) rfl ?_
              refine r_iload 4 d_Mod_isLess_113 rfl ?_
              refine r_iload 5 d_Mod_isLess_115 rfl ?_
              refine r_icmp_eq 133 d_Mod_isLess_117 rfl (by omega) (by omega) (fun h117 => ?_) (fun h117 => ?_)
              · refine r_iinc 3 d_Mod_isLess_133 rfl (by decide) rfl ?_
                refine r_goto 49 d_Mod_isLess_136 rfl ?_
                refine r_drop 4 (r_drop 5 (ihi (fun j j0 j1 => ?_)))
                by_cases e : j = i
                · rw [e]; omega
                · exact hd j j0 (by omega)
              · refine r_iload 4 d_Mod_isLess_120 rfl ?_
                refine r_iload 5 d_Mod_isLess_122 rfl ?_
                refine r_icmp_ge 131 d_Mod_isLess_124 rfl (by omega) (by omega) (fun h124 => ?_) (fun h124 => ?_)
                · refine r_iconst d_Mod_isLess_131 ?_
                  refine q_zret d_Mod_isLess_132 rfl (by omega) ?_
                  first
                    | exact ⟨Or.inl ⟨rfl, v, v0, v1, hu, i, i0, hd, by omega⟩, rfl⟩
                    | exact ⟨Or.inr ⟨rfl, fun q => lxp_as q ⟨v, v0, v1, fun u u0 u1 => (hu u u0 u1).symm, i, i0, fun j j0 j1 => (hd j j0 j1).symm, by omega⟩⟩, rfl⟩
                · refine r_iconst d_Mod_isLess_127 ?_
                  refine r_goto 132 d_Mod_isLess_128 rfl ?_
                  refine q_zret d_Mod_isLess_132 rfl (by omega) ?_
                  first
                    | exact ⟨Or.inl ⟨rfl, v, v0, v1, hu, i, i0, hd, by omega⟩, rfl⟩
                    | exact ⟨Or.inr ⟨rfl, fun q => lxp_as q ⟨v, v0, v1, fun u u0 u1 => (hu u u0 u1).symm, i, i0, fun j j0 j1 => (hd j j0 j1).symm, by omega⟩⟩, rfl⟩
            · have hb := y3 i i0 h92
              have e187 : σ 187 (12 * v + i) = gt (Q v) i := by rw [show 12 * v + i = 0 + 12 * v + i by omega]; exact hb.1
              have db : dg (Q v) i = gt (Q v) i := if_pos h92
              refine r_aload_n 0 d_Mod_isLess_95 rfl rfl ?_
              refine r_getR 187 d_Mod_isLess_96 fk_Mod_61 rfl rfl rfl (by decide) ?_
              refine r_bipush d_Mod_isLess_99 (by decide) ?_
              refine r_iload_n 1 d_Mod_isLess_101 rfl rfl ?_
              refine r_imul d_Mod_isLess_102 ?_
              refine r_iload_n 3 d_Mod_isLess_103 rfl rfl ?_
              refine r_iadd d_Mod_isLess_104 ?_
              refine r_iald 39 d_Mod_isLess_105 rfl rfl (by omega) (by omega) ?_
              rw [e187]
              refine r_goto 111 d_Mod_isLess_106 rfl ?_
              refine r_istore 5 d_Mod_isLess_111 (by decide) rfl ?_
              refine r_iload 4 d_Mod_isLess_113 rfl ?_
              refine r_iload 5 d_Mod_isLess_115 rfl ?_
              refine r_icmp_eq 133 d_Mod_isLess_117 rfl (by omega) (by omega) (fun h117 => ?_) (fun h117 => ?_)
              · refine r_iinc 3 d_Mod_isLess_133 rfl (by decide) rfl ?_
                refine r_goto 49 d_Mod_isLess_136 rfl ?_
                refine r_drop 4 (r_drop 5 (ihi (fun j j0 j1 => ?_)))
                by_cases e : j = i
                · rw [e]; omega
                · exact hd j j0 (by omega)
              · refine r_iload 4 d_Mod_isLess_120 rfl ?_
                refine r_iload 5 d_Mod_isLess_122 rfl ?_
                refine r_icmp_ge 131 d_Mod_isLess_124 rfl (by omega) (by omega) (fun h124 => ?_) (fun h124 => ?_)
                · refine r_iconst d_Mod_isLess_131 ?_
                  refine q_zret d_Mod_isLess_132 rfl (by omega) ?_
                  first
                    | exact ⟨Or.inl ⟨rfl, v, v0, v1, hu, i, i0, hd, by omega⟩, rfl⟩
                    | exact ⟨Or.inr ⟨rfl, fun q => lxp_as q ⟨v, v0, v1, fun u u0 u1 => (hu u u0 u1).symm, i, i0, fun j j0 j1 => (hd j j0 j1).symm, by omega⟩⟩, rfl⟩
                · refine r_iconst d_Mod_isLess_127 ?_
                  refine r_goto 132 d_Mod_isLess_128 rfl ?_
                  refine q_zret d_Mod_isLess_132 rfl (by omega) ?_
                  first
                    | exact ⟨Or.inl ⟨rfl, v, v0, v1, hu, i, i0, hd, by omega⟩, rfl⟩
                    | exact ⟨Or.inr ⟨rfl, fun q => lxp_as q ⟨v, v0, v1, fun u u0 u1 => (hu u u0 u1).symm, i, i0, fun j j0 j1 => (hd j j0 j1).symm, by omega⟩⟩, rfl⟩
          · have he := hQ.el v0 (show v < 3 by omega) i0 h61
            have da : dg (P v) i = gt (P v) i := if_pos h61
            refine r_aload_n 0 d_Mod_isLess_64 rfl rfl ?_
            refine r_getR 183 d_Mod_isLess_65 fk_Mod_49 rfl rfl rfl (by decide) ?_
            refine r_bipush d_Mod_isLess_68 (by decide) ?_
            refine r_iload_n 1 d_Mod_isLess_70 rfl rfl ?_
            refine r_imul d_Mod_isLess_71 ?_
            refine r_iload_n 3 d_Mod_isLess_72 rfl rfl ?_
            refine r_iadd d_Mod_isLess_73 ?_
            refine r_iald 36 d_Mod_isLess_74 rfl rfl (by omega) (by omega) ?_
            rw [he.1]
            refine r_goto 80 d_Mod_isLess_75 rfl ?_
            refine r_istore 4 d_Mod_isLess_80 (by decide) rfl ?_
            refine r_iload_n 3 d_Mod_isLess_82 rfl rfl ?_
            refine r_aload_n 0 d_Mod_isLess_83 rfl rfl ?_
            refine r_getR 187 d_Mod_isLess_84 fk_Mod_61 rfl rfl rfl (by decide) ?_
            refine r_bipush d_Mod_isLess_87 (by decide) ?_
            refine r_iload_n 1 d_Mod_isLess_89 rfl rfl ?_
            refine r_iadd d_Mod_isLess_90 ?_
            refine r_iald 39 d_Mod_isLess_91 rfl rfl (by omega) (by omega) ?_
            rw [ha36]
            refine r_icmp_ge 109 d_Mod_isLess_92 rfl (by omega) (by omega) (fun h92 => ?_) (fun h92 => ?_)
            · have db : dg (Q v) i = 99 := if_neg (by omega)
              refine r_bipush d_Mod_isLess_109 (by decide) ?_
              refine r_istore 5 d_Mod_isLess_111 (by decide) rfl ?_
              refine r_iload 4 d_Mod_isLess_113 rfl ?_
              refine r_iload 5 d_Mod_isLess_115 rfl ?_
              refine r_icmp_eq 133 d_Mod_isLess_117 rfl (by omega) (by omega) (fun h117 => ?_) (fun h117 => ?_)
              · refine r_iinc 3 d_Mod_isLess_133 rfl (by decide) rfl ?_
                refine r_goto 49 d_Mod_isLess_136 rfl ?_
                refine r_drop 4 (r_drop 5 (ihi (fun j j0 j1 => ?_)))
                by_cases e : j = i
                · rw [e]; omega
                · exact hd j j0 (by omega)
              · refine r_iload 4 d_Mod_isLess_120 rfl ?_
                refine r_iload 5 d_Mod_isLess_122 rfl ?_
                refine r_icmp_ge 131 d_Mod_isLess_124 rfl (by omega) (by omega) (fun h124 => ?_) (fun h124 => ?_)
                · refine r_iconst d_Mod_isLess_131 ?_
                  refine q_zret d_Mod_isLess_132 rfl (by omega) ?_
                  first
                    | exact ⟨Or.inl ⟨rfl, v, v0, v1, hu, i, i0, hd, by omega⟩, rfl⟩
                    | exact ⟨Or.inr ⟨rfl, fun q => lxp_as q ⟨v, v0, v1, fun u u0 u1 => (hu u u0 u1).symm, i, i0, fun j j0 j1 => (hd j j0 j1).symm, by omega⟩⟩, rfl⟩
                · refine r_iconst d_Mod_isLess_127 ?_
                  refine r_goto 132 d_Mod_isLess_128 rfl ?_
                  refine q_zret d_Mod_isLess_132 rfl (by omega) ?_
                  first
                    | exact ⟨Or.inl ⟨rfl, v, v0, v1, hu, i, i0, hd, by omega⟩, rfl⟩
                    | exact ⟨Or.inr ⟨rfl, fun q => lxp_as q ⟨v, v0, v1, fun u u0 u1 => (hu u u0 u1).symm, i, i0, fun j j0 j1 => (hd j j0 j1).symm, by omega⟩⟩, rfl⟩
            · have hb := y3 i i0 h92
              have e187 : σ 187 (12 * v + i) = gt (Q v) i := by rw [show 12 * v + i = 0 + 12 * v + i by omega]; exact hb.1
              have db : dg (Q v) i = gt (Q v) i := if_pos h92
              refine r_aload_n 0 d_Mod_isLess_95 rfl rfl ?_
              refine r_getR 187 d_Mod_isLess_96 fk_Mod_61 rfl rfl rfl (by decide) ?_
              refine r_bipush d_Mod_isLess_99 (by decide) ?_
              refine r_iload_n 1 d_Mod_isLess_101 rfl rfl ?_
              refine r_imul d_Mod_isLess_102 ?_
              refine r_iload_n 3 d_Mod_isLess_103 rfl rfl ?_
              refine r_iadd d_Mod_isLess_104 ?_
              refine r_iald 39 d_Mod_isLess_105 rfl rfl (by omega) (by omega) ?_
              rw [e187]
              refine r_goto 111 d_Mod_isLess_106 rfl ?_
              refine r_istore 5 d_Mod_isLess_111 (by decide) rfl ?_
              refine r_iload 4 d_Mod_isLess_113 rfl ?_
              refine r_iload 5 d_Mod_isLess_115 rfl ?_
              refine r_icmp_eq 133 d_Mod_isLess_117 rfl (by omega) (by omega) (fun h117 => ?_) (fun h117 => ?_)
              · refine r_iinc 3 d_Mod_isLess_133 rfl (by decide) rfl ?_
                refine r_goto 49 d_Mod_isLess_136 rfl ?_
                refine r_drop 4 (r_drop 5 (ihi (fun j j0 j1 => ?_)))
                by_cases e : j = i
                · rw [e]; omega
                · exact hd j j0 (by omega)
              · refine r_iload 4 d_Mod_isLess_120 rfl ?_
                refine r_iload 5 d_Mod_isLess_122 rfl ?_
                refine r_icmp_ge 131 d_Mod_isLess_124 rfl (by omega) (by omega) (fun h124 => ?_) (fun h124 => ?_)
                · refine r_iconst d_Mod_isLess_131 ?_
                  refine q_zret d_Mod_isLess_132 rfl (by omega) ?_
                  first
                    | exact ⟨Or.inl ⟨rfl, v, v0, v1, hu, i, i0, hd, by omega⟩, rfl⟩
                    | exact ⟨Or.inr ⟨rfl, fun q => lxp_as q ⟨v, v0, v1, fun u u0 u1 => (hu u u0 u1).symm, i, i0, fun j j0 j1 => (hd j j0 j1).symm, by omega⟩⟩, rfl⟩
                · refine r_iconst d_Mod_isLess_127 ?_
                  refine r_goto 132 d_Mod_isLess_128 rfl ?_
                  refine q_zret d_Mod_isLess_132 rfl (by omega) ?_
                  first
                    | exact ⟨Or.inl ⟨rfl, v, v0, v1, hu, i, i0, hd, by omega⟩, rfl⟩
                    | exact ⟨Or.inr ⟨rfl, fun q => lxp_as q ⟨v, v0, v1, fun u u0 u1 => (hu u u0 u1).symm, i, i0, fun j j0 j1 => (hd j j0 j1).symm, by omega⟩⟩, rfl⟩
      refine r_iload_n 1 d_Mod_isLess_2 rfl rfl ?_
      refine r_aload_n 0 d_Mod_isLess_3 rfl rfl ?_
      refine r_getI 14 d_Mod_isLess_4 fk_Mod_105 rfl rfl rfl ?_
      rw [h14]
      refine r_icmp_ge 145 d_Mod_isLess_7 rfl (by omega) (by omega) (fun h7 => absurd h7 (by omega)) (fun h7 => ?_)
      refine r_aload_n 0 d_Mod_isLess_10 rfl rfl ?_
      refine r_getR 184 d_Mod_isLess_11 fk_Mod_52 rfl rfl rfl (by decide) ?_
      refine r_iload_n 1 d_Mod_isLess_14 rfl rfl ?_
      refine r_iald 3 d_Mod_isLess_15 rfl rfl (by omega) (by omega) ?_
      rw [hz.1]
      refine r_aload_n 0 d_Mod_isLess_16 rfl rfl ?_
      refine r_getR 187 d_Mod_isLess_17 fk_Mod_61 rfl rfl rfl (by decide) ?_
      refine r_bipush d_Mod_isLess_20 (by decide) ?_
      refine r_iload_n 1 d_Mod_isLess_22 rfl rfl ?_
      refine r_iadd d_Mod_isLess_23 ?_
      refine r_iald 39 d_Mod_isLess_24 rfl rfl (by omega) (by omega) ?_
      rw [ha36]
      refine r_icmp_le 37 d_Mod_isLess_25 rfl (by omega) (by omega) (fun h25 => ?_) (fun h25 => ?_)
      · refine r_aload_n 0 d_Mod_isLess_37 rfl rfl ?_
        refine r_getR 187 d_Mod_isLess_38 fk_Mod_61 rfl rfl rfl (by decide) ?_
        refine r_bipush d_Mod_isLess_41 (by decide) ?_
        refine r_iload_n 1 d_Mod_isLess_43 rfl rfl ?_
        refine r_iadd d_Mod_isLess_44 ?_
        refine r_iald 39 d_Mod_isLess_45 rfl rfl (by omega) (by omega) ?_
        rw [ha36]
        refine r_istore_n 2 d_Mod_isLess_46 rfl (by decide) rfl ?_
        refine r_iconst d_Mod_isLess_47 ?_
        refine r_istore_n 3 d_Mod_isLess_48 rfl (by decide) rfl ?_
        exact LI _ (by omega) (by omega) (by omega) 0 (by omega) (by omega) (fun j j0 j1 => by omega)
      · refine r_aload_n 0 d_Mod_isLess_28 rfl rfl ?_
        refine r_getR 184 d_Mod_isLess_29 fk_Mod_52 rfl rfl rfl (by decide) ?_
        refine r_iload_n 1 d_Mod_isLess_32 rfl rfl ?_
        refine r_iald 3 d_Mod_isLess_33 rfl rfl (by omega) (by omega) ?_
        rw [hz.1]
        refine r_goto 46 d_Mod_isLess_34 rfl ?_
        refine r_istore_n 2 d_Mod_isLess_46 rfl (by decide) rfl ?_
        refine r_iconst d_Mod_isLess_47 ?_
        refine r_istore_n 3 d_Mod_isLess_48 rfl (by decide) rfl ?_
        exact LI _ (by omega) (by omega) (by omega) 0 (by omega) (by omega) (fun j j0 j1 => by omega)
  refine ci_of [vR 169, vU, vU, vU, vU, vU] fy_Mod_isLess.1 rfl (Nat.le_of_ble_eq_true rfl) ?_
  refine r_iconst d_Mod_isLess_0 ?_
  refine r_istore_n 1 d_Mod_isLess_1 rfl (by decide) rfl ?_
  exact key 0 (by omega) (by omega) (fun u u0 u1 => by omega)
/-- the best plan seen: none yet, or one that none of those seen is better than -/
def BM (D : sto) (ns nv : Int) (σ : sto) (S : pln → Prop) : Prop := (σ 169 42 = 0 ∧ ∀ Q, VV D ns nv Q → ¬ S Q) ∨ (σ 169 42 = 1 ∧ ∃ B, VV D ns nv B ∧ AP σ 187 0 B ∧ σ 169 39 = mp D B nv ∧ σ 169 40 = szP B ∧ σ 169 41 = tot D nv B ∧ ∀ Q, VV D ns nv Q → S Q → ¬ lss D nv Q B)
theorem BM.mono {D : sto} {ns nv : Int} {σ : sto} {S T : pln → Prop} (h : BM D ns nv σ S) (g : ∀ Q, VV D ns nv Q → T Q → S Q) : BM D ns nv σ T := by
  rcases h with ⟨a, b⟩ | ⟨a, B, b1, b2, b3, b4, b5, b6⟩
  · exact Or.inl ⟨a, fun Q q z => b Q q (g Q q z)⟩
  · exact Or.inr ⟨a, B, b1, b2, b3, b4, b5, fun Q q z => b6 Q q (g Q q z)⟩
theorem BM.keep {D : sto} {ns nv : Int} {σ σ' : sto} {S : pln → Prop} (h : BM D ns nv σ S) (hF : ∀ c i : Int, (c = 169 ∧ 39 ≤ i ∧ i ≤ 42 ∨ c = 187) → σ' c i = σ c i) : BM D ns nv σ' S := by
  unfold BM
  rw [hF 169 42 (by omega), hF 169 39 (by omega), hF 169 40 (by omega), hF 169 41 (by omega)]
  rcases h with h | ⟨a, B, b1, b2, b3⟩
  · exact Or.inl h
  · exact Or.inr ⟨a, B, b1, b2.keep (fun k _ _ => hF 187 k (by omega)), b3⟩
/-- what weighing leaves -/
def WF9 (σ σ' : sto) : Prop := ∀ c i : Int, c ≠ 187 → c ≠ 189 → c ≠ 190 → (c < 192 ∨ 195 < c) → (c ≠ 169 ∨ i < 29 ∨ 32 < i ∧ i < 39 ∨ 42 < i) → σ' c i = σ c i
theorem RF.wf {σ σ' : sto} (h : RF σ σ') : WF9 σ σ' := fun c i _ q1 q2 q3 q4 => h c i q1 q2 q3 (by omega)
theorem mt_weighs {σ D : sto} {ns nv : Int} {P : pln} {S : pln → Prop} (hC : DR σ D ns nv) (hO : DOK D ns nv) (hQ : RA σ P) (hP : PO ns nv P) (hu : ∀ u, (u < 0 ∨ nv ≤ u) → P u = []) (hB : BM D ns nv σ S) : CV M_Mod_weighs 7 [vR 169] σ (fun σ' => BM D ns nv σ' (fun Q => S Q ∨ Q = P) ∧ WF9 σ σ') := by
  have hn := hO.1
  have hRV := hP.rv hn.1 hn.2.1
  have hin := hP.inN (D := D) hn.1 ⟨hn.2.2.1, hn.2.2.2⟩
  have hsz := hP.size hn.1
  have hmp := mp_in (D := D) (fun v v0 v1 => (hRV v v0 v1).1) nv hn.2.2.1 hn.2.2.2
  have k171 : VV D ns nv P → (∀ Q, VV D ns nv Q → S Q → ¬ lss D nv Q P) → ∀ σ1 : sto, RA σ1 P → WF9 σ σ1 → ∀ z : Int, Run M_Mod_weighs (rxV 7 (fun σ' => BM D ns nv σ' (fun Q => S Q ∨ Q = P) ∧ WF9 σ σ')) (0, 0) 171 [vR 169, vI (mp D P nv), vI (szP P), vI (tot D nv P), vI z] [] (sg σ1) := by
    intro hV hno σ1 hQ1 hF1 z
    refine r_aload_n 0 d_Mod_weighs_171 rfl rfl ?_
    refine r_iconst d_Mod_weighs_172 ?_
    refine r_putI 42 d_Mod_weighs_173 fk_Mod_262 rfl rfl rfl (Or.inr ⟨rfl, (by omega)⟩) ?_
    refine r_aload_n 0 d_Mod_weighs_176 rfl rfl ?_
    refine r_iload_n 1 d_Mod_weighs_177 rfl rfl ?_
    refine r_putI 39 d_Mod_weighs_178 fk_Mod_266 rfl rfl rfl (Or.inl rfl) ?_
    refine r_aload_n 0 d_Mod_weighs_181 rfl rfl ?_
    refine r_iload_n 2 d_Mod_weighs_182 rfl rfl ?_
    refine r_putI 40 d_Mod_weighs_183 fk_Mod_269 rfl rfl rfl (Or.inl rfl) ?_
    refine r_aload_n 0 d_Mod_weighs_186 rfl rfl ?_
    refine r_iload_n 3 d_Mod_weighs_187 rfl rfl ?_
    refine r_putI 41 d_Mod_weighs_188 fk_Mod_272 rfl rfl rfl (Or.inl rfl) ?_
    refine r_aload_n 0 d_Mod_weighs_191 rfl rfl ?_
    refine r_aload_n 0 d_Mod_weighs_192 rfl rfl ?_
    refine r_getR 187 d_Mod_weighs_193 fk_Mod_61 rfl rfl rfl (by decide) ?_
    refine r_iconst d_Mod_weighs_196 ?_
    refine r_cVV 8 d_Mod_weighs_197 lk_Mod_231 vc_Mod_keeps (mt_keeps (n := 39) rfl rfl (Int.le_refl _) (by omega) (by omega) (by omega)) rfl rfl rfl rfl ⟨Nat.le_of_ble_eq_true rfl, Nat.le_of_ble_eq_true rfl⟩ ⟨Nat.zero_le _, Nat.zero_le _⟩ (Nat.le_of_ble_eq_true rfl) (fun s197 q197 => ?_)
    obtain ⟨t1, t2, t3⟩ := q197
    refine q_vret d_Mod_weighs_200 rfl ?_
    have hQ2 : RA (wr (wr (wr (wr σ1 169 42 1) 169 39 (mp D P nv)) 169 40 (szP P)) 169 41 (tot D nv P)) P := hQ1.keep (fun c i q => by rw [wr_ne (by omega), wr_ne (by omega), wr_ne (by omega), wr_ne (by omega)])
    have hA2 : AP s197 187 0 P := AP.of hQ2 t1 t2
    refine ⟨Or.inr ⟨by rw [t3 169 42 (by omega), wr_ne (by omega), wr_ne (by omega), wr_ne (by omega), wr_eq], P, hV, hA2, by rw [t3 169 39 (by omega), wr_ne (by omega), wr_ne (by omega), wr_eq], by rw [t3 169 40 (by omega), wr_ne (by omega), wr_eq], by rw [t3 169 41 (by omega), wr_eq], fun Q q z => ?_⟩, fun c i q1 q2 q3 q4 q5 => by rw [t3 c i q1, wr_ne (by omega), wr_ne (by omega), wr_ne (by omega), wr_ne (by omega)]; exact hF1 c i q1 q2 q3 q4 q5⟩
    rcases z with z | z
    · exact hno Q q z
    · rw [z]; exact lss_ir
  have k84 : VV D ns nv P → ∀ σ1 : sto, RA σ1 P → DR σ1 D ns nv → BM D ns nv σ1 S → WF9 σ σ1 → Run M_Mod_weighs (rxV 7 (fun σ' => BM D ns nv σ' (fun Q => S Q ∨ Q = P) ∧ WF9 σ σ')) (0, 0) 84 [vR 169, vI (mp D P nv), vI (szP P), vI (tot D nv P), vU] [] (sg σ1) := by
    intro hV σ1 hQ1 hC1 hB1 hF1
    have htn := tot_in hO hRV hV.2.1 nv hn.2.2.1 (Int.le_refl _)
    rcases hB1 with ⟨e42, hno⟩ | ⟨e42, B, hVB, hAB, e39, e40, e41, hbest⟩
    · have hno2 : ∀ Q, VV D ns nv Q → S Q → ¬ lss D nv Q P := fun Q q z => absurd z (hno Q q)
      refine r_aload_n 0 d_Mod_weighs_84 rfl rfl ?_
      refine r_getI 42 d_Mod_weighs_85 fk_Mod_262 rfl rfl rfl ?_
      rw [e42]
      refine r_if_eq 99 d_Mod_weighs_88 rfl (by omega) (fun h88 => ?_) (fun h88 => absurd h88 (by omega))
      refine r_iconst d_Mod_weighs_99 ?_
      refine r_goto 104 d_Mod_weighs_100 rfl ?_
      refine r_istore 4 d_Mod_weighs_104 (by decide) rfl ?_
      refine r_iload 4 d_Mod_weighs_106 rfl ?_
      refine r_if_ne 165 d_Mod_weighs_108 rfl (by omega) (fun h108 => ?_) (fun h108 => absurd h108 (by omega))
      refine r_iload 4 d_Mod_weighs_165 rfl ?_
      refine r_if_ne 171 d_Mod_weighs_167 rfl (by omega) (fun h167 => ?_) (fun h167 => absurd h167 (by omega))
      exact k171 hV hno2 σ1 hQ1 hF1 _
    · have hszB := hVB.1.size hn.1
      have hRB := hVB.1.rv hn.1 hn.2.1
      have hmpB := mp_in (D := D) (fun v v0 v1 => (hRB v v0 v1).1) nv hn.2.2.1 hn.2.2.2
      have htB := tot_in hO hRB hVB.2.1 nv hn.2.2.1 (Int.le_refl _)
      have k165 : ∀ z : Int, (z = 1 ∧ lss D nv P B ∨ z = 0 ∧ ¬ lss D nv P B) → Run M_Mod_weighs (rxV 7 (fun σ' => BM D ns nv σ' (fun Q => S Q ∨ Q = P) ∧ WF9 σ σ')) (0, 0) 165 [vR 169, vI (mp D P nv), vI (szP P), vI (tot D nv P), vI z] [] (sg σ1) := by
        intro z hz
        refine r_iload 4 d_Mod_weighs_165 rfl ?_
        refine r_if_ne 171 d_Mod_weighs_167 rfl (by omega) (fun h167 => ?_) (fun h167 => ?_)
        · have hl := (hz.resolve_right (fun q => h167 q.1)).2
          exact k171 hV (fun Q q y z => hbest Q q y (lss_tr z hl)) σ1 hQ1 hF1 _
        · refine q_vret d_Mod_weighs_170 rfl ?_
          have hl := (hz.resolve_left (fun q => by omega)).2
          refine ⟨Or.inr ⟨e42, B, hVB, hAB, e39, e40, e41, fun Q q y => ?_⟩, hF1⟩
          rcases y with y | y
          · exact hbest Q q y
          · rw [y]; exact hl
      have k106 : ∀ z : Int, (z = 1 ∧ mp D B nv < mp D P nv ∨ z = 0 ∧ mp D P nv ≤ mp D B nv) → Run M_Mod_weighs (rxV 7 (fun σ' => BM D ns nv σ' (fun Q => S Q ∨ Q = P) ∧ WF9 σ σ')) (0, 0) 106 [vR 169, vI (mp D P nv), vI (szP P), vI (tot D nv P), vI z] [] (sg σ1) := by
        intro z hz
        refine r_iload 4 d_Mod_weighs_106 rfl ?_
        refine r_if_ne 165 d_Mod_weighs_108 rfl (by omega) (fun h108 => ?_) (fun h108 => ?_)
        · first
            | exact k165 _ (Or.inl ⟨by omega, Or.inl (by unfold lsk; omega)⟩)
            | exact k165 _ (Or.inr ⟨by omega, fun q => by rcases q with q | q; (unfold lsk at q; omega); (have := q.1; have := q.2.1; have := q.2.2.1; omega)⟩)
            | exact k165 _ (Or.inl ⟨by omega, Or.inr ⟨by omega, by omega, by omega, (q152.resolve_right (fun q => by omega)).2⟩⟩)
            | exact k165 _ (Or.inr ⟨by omega, fun q => by rcases q with q | q; (unfold lsk at q; omega); (exact (q152.resolve_left (fun q => by omega)).2 q.2.2.2)⟩)
        · refine r_iload_n 1 d_Mod_weighs_111 rfl rfl ?_
          refine r_aload_n 0 d_Mod_weighs_112 rfl rfl ?_
          refine r_getI 39 d_Mod_weighs_113 fk_Mod_266 rfl rfl rfl ?_
          rw [e39]
          refine r_icmp_ne 165 d_Mod_weighs_116 rfl (by omega) (by omega) (fun h116 => ?_) (fun h116 => ?_)
          · first
              | exact k165 _ (Or.inl ⟨by omega, Or.inl (by unfold lsk; omega)⟩)
              | exact k165 _ (Or.inr ⟨by omega, fun q => by rcases q with q | q; (unfold lsk at q; omega); (have := q.1; have := q.2.1; have := q.2.2.1; omega)⟩)
              | exact k165 _ (Or.inl ⟨by omega, Or.inr ⟨by omega, by omega, by omega, (q152.resolve_right (fun q => by omega)).2⟩⟩)
              | exact k165 _ (Or.inr ⟨by omega, fun q => by rcases q with q | q; (unfold lsk at q; omega); (exact (q152.resolve_left (fun q => by omega)).2 q.2.2.2)⟩)
          · refine r_iload_n 2 d_Mod_weighs_119 rfl rfl ?_
            refine r_aload_n 0 d_Mod_weighs_120 rfl rfl ?_
            refine r_getI 40 d_Mod_weighs_121 fk_Mod_269 rfl rfl rfl ?_
            rw [e40]
            refine r_icmp_gt 158 d_Mod_weighs_124 rfl (by omega) (by omega) (fun h124 => ?_) (fun h124 => ?_)
            · refine r_iconst d_Mod_weighs_158 ?_
              refine r_goto 163 d_Mod_weighs_159 rfl ?_
              refine r_istore 4 d_Mod_weighs_163 (by decide) rfl ?_
              first
                | exact k165 _ (Or.inl ⟨by omega, Or.inl (by unfold lsk; omega)⟩)
                | exact k165 _ (Or.inr ⟨by omega, fun q => by rcases q with q | q; (unfold lsk at q; omega); (have := q.1; have := q.2.1; have := q.2.2.1; omega)⟩)
                | exact k165 _ (Or.inl ⟨by omega, Or.inr ⟨by omega, by omega, by omega, (q152.resolve_right (fun q => by omega)).2⟩⟩)
                | exact k165 _ (Or.inr ⟨by omega, fun q => by rcases q with q | q; (unfold lsk at q; omega); (exact (q152.resolve_left (fun q => by omega)).2 q.2.2.2)⟩)
            · refine r_iload_n 2 d_Mod_weighs_127 rfl rfl ?_
              refine r_aload_n 0 d_Mod_weighs_128 rfl rfl ?_
              refine r_getI 40 d_Mod_weighs_129 fk_Mod_269 rfl rfl rfl ?_
              rw [e40]
              refine r_icmp_ne 162 d_Mod_weighs_132 rfl (by omega) (by omega) (fun h132 => ?_) (fun h132 => ?_)
              · refine r_iconst d_Mod_weighs_162 ?_
                refine r_istore 4 d_Mod_weighs_163 (by decide) rfl ?_
                first
                  | exact k165 _ (Or.inl ⟨by omega, Or.inl (by unfold lsk; omega)⟩)
                  | exact k165 _ (Or.inr ⟨by omega, fun q => by rcases q with q | q; (unfold lsk at q; omega); (have := q.1; have := q.2.1; have := q.2.2.1; omega)⟩)
                  | exact k165 _ (Or.inl ⟨by omega, Or.inr ⟨by omega, by omega, by omega, (q152.resolve_right (fun q => by omega)).2⟩⟩)
                  | exact k165 _ (Or.inr ⟨by omega, fun q => by rcases q with q | q; (unfold lsk at q; omega); (exact (q152.resolve_left (fun q => by omega)).2 q.2.2.2)⟩)
              · refine r_iload_n 3 d_Mod_weighs_135 rfl rfl ?_
                refine r_aload_n 0 d_Mod_weighs_136 rfl rfl ?_
                refine r_getI 41 d_Mod_weighs_137 fk_Mod_272 rfl rfl rfl ?_
                rw [e41]
                refine r_icmp_lt 158 d_Mod_weighs_140 rfl (by omega) (by omega) (fun h140 => ?_) (fun h140 => ?_)
                · refine r_iconst d_Mod_weighs_158 ?_
                  refine r_goto 163 d_Mod_weighs_159 rfl ?_
                  refine r_istore 4 d_Mod_weighs_163 (by decide) rfl ?_
                  first
                    | exact k165 _ (Or.inl ⟨by omega, Or.inl (by unfold lsk; omega)⟩)
                    | exact k165 _ (Or.inr ⟨by omega, fun q => by rcases q with q | q; (unfold lsk at q; omega); (have := q.1; have := q.2.1; have := q.2.2.1; omega)⟩)
                    | exact k165 _ (Or.inl ⟨by omega, Or.inr ⟨by omega, by omega, by omega, (q152.resolve_right (fun q => by omega)).2⟩⟩)
                    | exact k165 _ (Or.inr ⟨by omega, fun q => by rcases q with q | q; (unfold lsk at q; omega); (exact (q152.resolve_left (fun q => by omega)).2 q.2.2.2)⟩)
                · refine r_iload_n 3 d_Mod_weighs_143 rfl rfl ?_
                  refine r_aload_n 0 d_Mod_weighs_144 rfl rfl ?_
                  refine r_getI 41 d_Mod_weighs_145 fk_Mod_272 rfl rfl rfl ?_
                  rw [e41]
                  refine r_icmp_ne 162 d_Mod_weighs_148 rfl (by omega) (by omega) (fun h148 => ?_) (fun h148 => ?_)
                  · refine r_iconst d_Mod_weighs_162 ?_
                    refine r_istore 4 d_Mod_weighs_163 (by decide) rfl ?_
                    first
                      | exact k165 _ (Or.inl ⟨by omega, Or.inl (by unfold lsk; omega)⟩)
                      | exact k165 _ (Or.inr ⟨by omega, fun q => by rcases q with q | q; (unfold lsk at q; omega); (have := q.1; have := q.2.1; have := q.2.2.1; omega)⟩)
                      | exact k165 _ (Or.inl ⟨by omega, Or.inr ⟨by omega, by omega, by omega, (q152.resolve_right (fun q => by omega)).2⟩⟩)
                      | exact k165 _ (Or.inr ⟨by omega, fun q => by rcases q with q | q; (unfold lsk at q; omega); (exact (q152.resolve_left (fun q => by omega)).2 q.2.2.2)⟩)
                  · refine r_aload_n 0 d_Mod_weighs_151 rfl rfl ?_
                    refine r_cVI 8 d_Mod_weighs_152 lk_Mod_275 vc_Mod_isLess (mt_isLess hC1 hn hQ1 hAB hRV hRB) rfl rfl rfl rfl ⟨Nat.le_of_ble_eq_true rfl, Nat.le_of_ble_eq_true rfl⟩ ⟨Nat.zero_le _, Nat.zero_le _⟩ (Nat.le_of_ble_eq_true rfl) (fun r152 s152 q152 => ?_)
                    obtain ⟨q152, hs152⟩ := q152
                    have hs152 := hs152.symm
                    subst hs152
                    refine r_if_eq 162 d_Mod_weighs_155 rfl (by omega) (fun h155 => ?_) (fun h155 => ?_)
                    · refine r_iconst d_Mod_weighs_162 ?_
                      refine r_istore 4 d_Mod_weighs_163 (by decide) rfl ?_
                      first
                        | exact k165 _ (Or.inl ⟨by omega, Or.inl (by unfold lsk; omega)⟩)
                        | exact k165 _ (Or.inr ⟨by omega, fun q => by rcases q with q | q; (unfold lsk at q; omega); (have := q.1; have := q.2.1; have := q.2.2.1; omega)⟩)
                        | exact k165 _ (Or.inl ⟨by omega, Or.inr ⟨by omega, by omega, by omega, (q152.resolve_right (fun q => by omega)).2⟩⟩)
                        | exact k165 _ (Or.inr ⟨by omega, fun q => by rcases q with q | q; (unfold lsk at q; omega); (exact (q152.resolve_left (fun q => by omega)).2 q.2.2.2)⟩)
                    · refine r_iconst d_Mod_weighs_158 ?_
                      refine r_goto 163 d_Mod_weighs_159 rfl ?_
                      refine r_istore 4 d_Mod_weighs_163 (by decide) rfl ?_
                      first
                        | exact k165 _ (Or.inl ⟨by omega, Or.inl (by unfold lsk; omega)⟩)
                        | exact k165 _ (Or.inr ⟨by omega, fun q => by rcases q with q | q; (unfold lsk at q; omega); (have := q.1; have := q.2.1; have := q.2.2.1; omega)⟩)
                        | exact k165 _ (Or.inl ⟨by omega, Or.inr ⟨by omega, by omega, by omega, (q152.resolve_right (fun q => by omega)).2⟩⟩)
                        | exact k165 _ (Or.inr ⟨by omega, fun q => by rcases q with q | q; (unfold lsk at q; omega); (exact (q152.resolve_left (fun q => by omega)).2 q.2.2.2)⟩)
      refine r_aload_n 0 d_Mod_weighs_84 rfl rfl ?_
      refine r_getI 42 d_Mod_weighs_85 fk_Mod_262 rfl rfl rfl ?_
      rw [e42]
      refine r_if_eq 99 d_Mod_weighs_88 rfl (by omega) (fun h88 => absurd h88 (by omega)) (fun h88 => ?_)
      refine r_iload_n 1 d_Mod_weighs_91 rfl rfl ?_
      refine r_aload_n 0 d_Mod_weighs_92 rfl rfl ?_
      refine r_getI 39 d_Mod_weighs_93 fk_Mod_266 rfl rfl rfl ?_
      rw [e39]
      refine r_icmp_le 103 d_Mod_weighs_96 rfl (by omega) (by omega) (fun h96 => ?_) (fun h96 => ?_)
      · refine r_iconst d_Mod_weighs_103 ?_
        refine r_istore 4 d_Mod_weighs_104 (by decide) rfl ?_
        exact k106 _ (by omega)
      · refine r_iconst d_Mod_weighs_99 ?_
        refine r_goto 104 d_Mod_weighs_100 rfl ?_
        refine r_istore 4 d_Mod_weighs_104 (by decide) rfl ?_
        exact k106 _ (by omega)
  have LC : AF D nv P → ∀ σ1 : sto, RF σ σ1 → ∀ s, 0 ≤ s → s ≤ ns → ∀ x y : Int, x = inN (isM D) (al3 P) s.toNat → y = inN (fun _ => true) (al3 P) s.toNat → Run M_Mod_weighs (rxV 7 (fun σ' => BM D ns nv σ' (fun Q => S Q ∨ Q = P) ∧ WF9 σ σ')) (0, 0) 14 [vR 169, vI x, vI y, vI s, vU] [] (sg σ1) := by
    intro hav σ1 hR1
    have hC1 := hR1.dr hC
    have hQ1 := hR1.ra hQ
    refine up_ind (b := ns) ?_ ?_
    · intro x y hx hy
      rw [hin.1] at hx
      rw [hin.2] at hy
      subst hx hy
      refine r_iload_n 3 d_Mod_weighs_14 rfl rfl ?_
      refine r_aload_n 0 d_Mod_weighs_15 rfl rfl ?_
      refine r_getI 13 d_Mod_weighs_16 fk_Mod_102 rfl rfl rfl ?_
      rw [hC1.1]
      refine r_icmp_ge 79 d_Mod_weighs_19 rfl (by omega) (by omega) (fun h19 => ?_) (fun h19 => absurd h19 (by omega))
      refine r_aload_n 0 d_Mod_weighs_79 rfl rfl ?_
      refine r_cVI 8 d_Mod_weighs_80 lk_Mod_209 vc_Mod_costAll (mt_costAll hC1 hO hQ1 hRV hav) rfl rfl rfl rfl ⟨Nat.le_of_ble_eq_true rfl, Nat.le_of_ble_eq_true rfl⟩ ⟨Nat.zero_le _, Nat.zero_le _⟩ (Nat.le_of_ble_eq_true rfl) (fun r80 s80 q80 => ?_)
      obtain ⟨ec, qR⟩ := q80
      subst ec
      refine r_istore_n 3 d_Mod_weighs_83 rfl (by decide) rfl ?_
      have hR2 := hR1.tr qR
      have hV : VV D ns nv P := ⟨hP, hav, hu⟩
      exact k84 hV _ (hR2.ra hQ) (hR2.dr hC) (hB.keep (fun c i q => hR2 c i (by omega) (by omega) (by omega) (by omega))) hR2.wf
    · intro s s0 s1 ih x y hx hy
      have hat := hC1.at (s := s) s0 (by omega)
      have hds := hO.2.1 s s0 s1
      have hvi := vanOf_in P s
      have e1 : (vanOf P s < 0 → inN (isM D) (al3 P) (s + 1).toNat = inN (isM D) (al3 P) s.toNat) ∧ (0 ≤ vanOf P s → D 0 s = 4 → inN (isM D) (al3 P) (s + 1).toNat = inN (isM D) (al3 P) s.toNat + 1) ∧ (0 ≤ vanOf P s → D 0 s ≠ 4 → inN (isM D) (al3 P) (s + 1).toNat = inN (isM D) (al3 P) s.toNat) := by
        rw [inN_s (p := isM D) (l := al3 P) s0]
        exact ⟨fun q => by rw [if_neg (fun z => vanOf_no.mp (show vanOf P s = -1 by omega) z.2)]; omega, fun q q2 => by rw [if_pos ⟨decide_eq_true q2, van_in q⟩], fun q q2 => by rw [if_neg (fun z => q2 (of_decide_eq_true z.1))]; omega⟩
      have e2 : (vanOf P s < 0 → inN (fun _ => true) (al3 P) (s + 1).toNat = inN (fun _ => true) (al3 P) s.toNat) ∧ (0 ≤ vanOf P s → inN (fun _ => true) (al3 P) (s + 1).toNat = inN (fun _ => true) (al3 P) s.toNat + 1) := by
        rw [inN_s (p := fun _ => true) (l := al3 P) s0]
        exact ⟨fun q => by rw [if_neg (fun z => vanOf_no.mp (show vanOf P s = -1 by omega) z.2)]; omega, fun q => by rw [if_pos ⟨rfl, van_in q⟩]⟩
      refine r_iload_n 3 d_Mod_weighs_14 rfl rfl ?_
      refine r_aload_n 0 d_Mod_weighs_15 rfl rfl ?_
      refine r_getI 13 d_Mod_weighs_16 fk_Mod_102 rfl rfl rfl ?_
      rw [hC1.1]
      refine r_icmp_ge 79 d_Mod_weighs_19 rfl (by omega) (by omega) (fun h19 => absurd h19 (by omega)) (fun h19 => ?_)
      refine r_aload_n 0 d_Mod_weighs_22 rfl rfl ?_
      refine r_iload_n 3 d_Mod_weighs_23 rfl rfl ?_
      refine r_cVP 8 d_Mod_weighs_24 lk_Mod_156 vc_Mod_vanOf (mt_vanOf hC1 ⟨hn.2.2.1, hn.2.2.2⟩ hQ1 hP (by omega)) rfl rfl rfl rfl ⟨Nat.le_of_ble_eq_true rfl, Nat.le_of_ble_eq_true rfl⟩ ⟨Nat.zero_le _, Nat.zero_le _⟩ (Nat.le_of_ble_eq_true rfl) ?_
      refine r_if_lt 34 d_Mod_weighs_27 rfl (by omega) (fun h27 => ?_) (fun h27 => ?_)
      · refine r_iconst d_Mod_weighs_34 ?_
        refine r_istore 4 d_Mod_weighs_35 (by decide) rfl ?_
        refine r_iload_n 2 d_Mod_weighs_37 rfl rfl ?_
        refine r_iload 4 d_Mod_weighs_38 rfl ?_
        refine r_if_eq 47 d_Mod_weighs_40 rfl (by omega) (fun h40 => ?_) (fun h40 => ?_)
        · refine r_iconst d_Mod_weighs_47 ?_
          refine r_iadd d_Mod_weighs_48 ?_
          refine r_istore_n 2 d_Mod_weighs_49 rfl (by decide) rfl ?_
          refine r_iload_n 1 d_Mod_weighs_50 rfl rfl ?_
          refine r_iload 4 d_Mod_weighs_51 rfl ?_
          refine r_if_eq 70 d_Mod_weighs_53 rfl (by omega) (fun h53 => ?_) (fun h53 => ?_)
          · refine r_iconst d_Mod_weighs_70 ?_
            refine r_iadd d_Mod_weighs_71 ?_
            refine r_istore_n 1 d_Mod_weighs_72 rfl (by decide) rfl ?_
            refine r_iinc 3 d_Mod_weighs_73 rfl (by decide) rfl ?_
            refine r_goto 14 d_Mod_weighs_76 rfl ?_
            first
              | (exfalso; omega)
              | exact r_drop 4 (ih _ _ (by omega) (by omega))
          · refine r_aload_n 0 d_Mod_weighs_56 rfl rfl ?_
            refine r_getR 171 d_Mod_weighs_57 fk_Mod_13 rfl rfl rfl (by decide) ?_
            refine r_iload_n 3 d_Mod_weighs_60 rfl rfl ?_
            refine r_iald 12 d_Mod_weighs_61 rfl rfl (by omega) (by omega) ?_
            rw [hat.1]
            refine r_iconst d_Mod_weighs_62 ?_
            refine r_icmp_ne 70 d_Mod_weighs_63 rfl (by omega) (by omega) (fun h63 => ?_) (fun h63 => ?_)
            · refine r_iconst d_Mod_weighs_70 ?_
              refine r_iadd d_Mod_weighs_71 ?_
              refine r_istore_n 1 d_Mod_weighs_72 rfl (by decide) rfl ?_
              refine r_iinc 3 d_Mod_weighs_73 rfl (by decide) rfl ?_
              refine r_goto 14 d_Mod_weighs_76 rfl ?_
              first
                | (exfalso; omega)
                | exact r_drop 4 (ih _ _ (by omega) (by omega))
            · refine r_iconst d_Mod_weighs_66 ?_
              refine r_goto 71 d_Mod_weighs_67 rfl ?_
              refine r_iadd d_Mod_weighs_71 ?_
              refine r_istore_n 1 d_Mod_weighs_72 rfl (by decide) rfl ?_
              refine r_iinc 3 d_Mod_weighs_73 rfl (by decide) rfl ?_
              refine r_goto 14 d_Mod_weighs_76 rfl ?_
              first
                | (exfalso; omega)
                | exact r_drop 4 (ih _ _ (by omega) (by omega))
        · refine r_iconst d_Mod_weighs_43 ?_
          refine r_goto 48 d_Mod_weighs_44 rfl ?_
          refine r_iadd d_Mod_weighs_48 ?_
          refine r_istore_n 2 d_Mod_weighs_49 rfl (by decide) rfl ?_
          refine r_iload_n 1 d_Mod_weighs_50 rfl rfl ?_
          refine r_iload 4 d_Mod_weighs_51 rfl ?_
          refine r_if_eq 70 d_Mod_weighs_53 rfl (by omega) (fun h53 => ?_) (fun h53 => ?_)
          · refine r_iconst d_Mod_weighs_70 ?_
            refine r_iadd d_Mod_weighs_71 ?_
            refine r_istore_n 1 d_Mod_weighs_72 rfl (by decide) rfl ?_
            refine r_iinc 3 d_Mod_weighs_73 rfl (by decide) rfl ?_
            refine r_goto 14 d_Mod_weighs_76 rfl ?_
            first
              | (exfalso; omega)
              | exact r_drop 4 (ih _ _ (by omega) (by omega))
          · refine r_aload_n 0 d_Mod_weighs_56 rfl rfl ?_
            refine r_getR 171 d_Mod_weighs_57 fk_Mod_13 rfl rfl rfl (by decide) ?_
            refine r_iload_n 3 d_Mod_weighs_60 rfl rfl ?_
            refine r_iald 12 d_Mod_weighs_61 rfl rfl (by omega) (by omega) ?_
            rw [hat.1]
            refine r_iconst d_Mod_weighs_62 ?_
            refine r_icmp_ne 70 d_Mod_weighs_63 rfl (by omega) (by omega) (fun h63 => ?_) (fun h63 => ?_)
            · refine r_iconst d_Mod_weighs_70 ?_
              refine r_iadd d_Mod_weighs_71 ?_
              refine r_istore_n 1 d_Mod_weighs_72 rfl (by decide) rfl ?_
              refine r_iinc 3 d_Mod_weighs_73 rfl (by decide) rfl ?_
              refine r_goto 14 d_Mod_weighs_76 rfl ?_
              first
                | (exfalso; omega)
                | exact r_drop 4 (ih _ _ (by omega) (by omega))
            · refine r_iconst d_Mod_weighs_66 ?_
              refine r_goto 71 d_Mod_weighs_67 rfl ?_
              refine r_iadd d_Mod_weighs_71 ?_
              refine r_istore_n 1 d_Mod_weighs_72 rfl (by decide) rfl ?_
              refine r_iinc 3 d_Mod_weighs_73 rfl (by decide) rfl ?_
              refine r_goto 14 d_Mod_weighs_76 rfl ?_
              first
                | (exfalso; omega)
                | exact r_drop 4 (ih _ _ (by omega) (by omega))
      · refine r_iconst d_Mod_weighs_30 ?_
        refine r_goto 35 d_Mod_weighs_31 rfl ?_
        refine r_istore 4 d_Mod_weighs_35 (by decide) rfl ?_
        refine r_iload_n 2 d_Mod_weighs_37 rfl rfl ?_
        refine r_iload 4 d_Mod_weighs_38 rfl ?_
        refine r_if_eq 47 d_Mod_weighs_40 rfl (by omega) (fun h40 => ?_) (fun h40 => ?_)
        · refine r_iconst d_Mod_weighs_47 ?_
          refine r_iadd d_Mod_weighs_48 ?_
          refine r_istore_n 2 d_Mod_weighs_49 rfl (by decide) rfl ?_
          refine r_iload_n 1 d_Mod_weighs_50 rfl rfl ?_
          refine r_iload 4 d_Mod_weighs_51 rfl ?_
          refine r_if_eq 70 d_Mod_weighs_53 rfl (by omega) (fun h53 => ?_) (fun h53 => ?_)
          · refine r_iconst d_Mod_weighs_70 ?_
            refine r_iadd d_Mod_weighs_71 ?_
            refine r_istore_n 1 d_Mod_weighs_72 rfl (by decide) rfl ?_
            refine r_iinc 3 d_Mod_weighs_73 rfl (by decide) rfl ?_
            refine r_goto 14 d_Mod_weighs_76 rfl ?_
            first
              | (exfalso; omega)
              | exact r_drop 4 (ih _ _ (by omega) (by omega))
          · refine r_aload_n 0 d_Mod_weighs_56 rfl rfl ?_
            refine r_getR 171 d_Mod_weighs_57 fk_Mod_13 rfl rfl rfl (by decide) ?_
            refine r_iload_n 3 d_Mod_weighs_60 rfl rfl ?_
            refine r_iald 12 d_Mod_weighs_61 rfl rfl (by omega) (by omega) ?_
            rw [hat.1]
            refine r_iconst d_Mod_weighs_62 ?_
            refine r_icmp_ne 70 d_Mod_weighs_63 rfl (by omega) (by omega) (fun h63 => ?_) (fun h63 => ?_)
            · refine r_iconst d_Mod_weighs_70 ?_
              refine r_iadd d_Mod_weighs_71 ?_
              refine r_istore_n 1 d_Mod_weighs_72 rfl (by decide) rfl ?_
              refine r_iinc 3 d_Mod_weighs_73 rfl (by decide) rfl ?_
              refine r_goto 14 d_Mod_weighs_76 rfl ?_
              first
                | (exfalso; omega)
                | exact r_drop 4 (ih _ _ (by omega) (by omega))
            · refine r_iconst d_Mod_weighs_66 ?_
              refine r_goto 71 d_Mod_weighs_67 rfl ?_
              refine r_iadd d_Mod_weighs_71 ?_
              refine r_istore_n 1 d_Mod_weighs_72 rfl (by decide) rfl ?_
              refine r_iinc 3 d_Mod_weighs_73 rfl (by decide) rfl ?_
              refine r_goto 14 d_Mod_weighs_76 rfl ?_
              first
                | (exfalso; omega)
                | exact r_drop 4 (ih _ _ (by omega) (by omega))
        · refine r_iconst d_Mod_weighs_43 ?_
          refine r_goto 48 d_Mod_weighs_44 rfl ?_
          refine r_iadd d_Mod_weighs_48 ?_
          refine r_istore_n 2 d_Mod_weighs_49 rfl (by decide) rfl ?_
          refine r_iload_n 1 d_Mod_weighs_50 rfl rfl ?_
          refine r_iload 4 d_Mod_weighs_51 rfl ?_
          refine r_if_eq 70 d_Mod_weighs_53 rfl (by omega) (fun h53 => ?_) (fun h53 => ?_)
          · refine r_iconst d_Mod_weighs_70 ?_
            refine r_iadd d_Mod_weighs_71 ?_
            refine r_istore_n 1 d_Mod_weighs_72 rfl (by decide) rfl ?_
            refine r_iinc 3 d_Mod_weighs_73 rfl (by decide) rfl ?_
            refine r_goto 14 d_Mod_weighs_76 rfl ?_
            first
              | (exfalso; omega)
              | exact r_drop 4 (ih _ _ (by omega) (by omega))
          · refine r_aload_n 0 d_Mod_weighs_56 rfl rfl ?_
            refine r_getR 171 d_Mod_weighs_57 fk_Mod_13 rfl rfl rfl (by decide) ?_
            refine r_iload_n 3 d_Mod_weighs_60 rfl rfl ?_
            refine r_iald 12 d_Mod_weighs_61 rfl rfl (by omega) (by omega) ?_
            rw [hat.1]
            refine r_iconst d_Mod_weighs_62 ?_
            refine r_icmp_ne 70 d_Mod_weighs_63 rfl (by omega) (by omega) (fun h63 => ?_) (fun h63 => ?_)
            · refine r_iconst d_Mod_weighs_70 ?_
              refine r_iadd d_Mod_weighs_71 ?_
              refine r_istore_n 1 d_Mod_weighs_72 rfl (by decide) rfl ?_
              refine r_iinc 3 d_Mod_weighs_73 rfl (by decide) rfl ?_
              refine r_goto 14 d_Mod_weighs_76 rfl ?_
              first
                | (exfalso; omega)
                | exact r_drop 4 (ih _ _ (by omega) (by omega))
            · refine r_iconst d_Mod_weighs_66 ?_
              refine r_goto 71 d_Mod_weighs_67 rfl ?_
              refine r_iadd d_Mod_weighs_71 ?_
              refine r_istore_n 1 d_Mod_weighs_72 rfl (by decide) rfl ?_
              refine r_iinc 3 d_Mod_weighs_73 rfl (by decide) rfl ?_
              refine r_goto 14 d_Mod_weighs_76 rfl ?_
              first
                | (exfalso; omega)
                | exact r_drop 4 (ih _ _ (by omega) (by omega))
  refine cv_of [vR 169, vU, vU, vU, vU] fy_Mod_weighs.1 rfl (Nat.le_of_ble_eq_true rfl) ?_
  refine r_aload_n 0 d_Mod_weighs_0 rfl rfl ?_
  refine r_cVI 8 d_Mod_weighs_1 lk_Mod_133 vc_Mod_allFit (mt_allFit hC hO hQ hRV) rfl rfl rfl rfl ⟨Nat.le_of_ble_eq_true rfl, Nat.le_of_ble_eq_true rfl⟩ ⟨Nat.zero_le _, Nat.zero_le _⟩ (Nat.le_of_ble_eq_true rfl) (fun r1 s1 q1 => ?_)
  obtain ⟨qa, qR⟩ := q1
  refine r_if_ne 8 d_Mod_weighs_4 rfl (by omega) (fun h4 => ?_) (fun h4 => ?_)
  · refine r_iconst d_Mod_weighs_8 ?_
    refine r_istore_n 1 d_Mod_weighs_9 rfl (by decide) rfl ?_
    refine r_iconst d_Mod_weighs_10 ?_
    refine r_istore_n 2 d_Mod_weighs_11 rfl (by decide) rfl ?_
    refine r_iconst d_Mod_weighs_12 ?_
    refine r_istore_n 3 d_Mod_weighs_13 rfl (by decide) rfl ?_
    exact LC (qa.resolve_right (fun q => h4 q.1)).2 _ qR 0 (by omega) (by omega) 0 0 rfl rfl
  · refine q_vret d_Mod_weighs_7 rfl ?_
    have hna := (qa.resolve_left (fun q => by omega)).2
    refine ⟨(hB.keep (fun c i q => qR c i (by omega) (by omega) (by omega) (by omega))).mono (fun Q q z => ?_), qR.wf⟩
    rcases z with z | z
    · exact z
    · rw [z] at q; exact absurd q.2.1 hna
