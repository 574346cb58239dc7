-- TRIP: a round is judged (walks written by wip/whole/gen_trip.py)
theorem bit_ne {a m : Nat} (h : ((a / 2 ^ m % 2 : Nat) : Int) ≠ 0) : a.testBit m = true := by
  rw [bit_mod] at h
  split at h
  · assumption
  · exact absurd rfl h
theorem bit_eq {a m : Nat} (h : ((a / 2 ^ m % 2 : Nat) : Int) = 0) : a.testBit m = false := by
  rw [bit_mod] at h
  split at h
  · cases h
  · next q => simpa using q
theorem ct_isPaired {σ D : sto} {ns nv c : Int} {l : List Int} (hC : DC σ D ns nv) (hO : DOK D ns nv) (hl : RV ns l) (hk : KD c = 9) (ha : AL c = 12) (hc : 27 ≤ c) (hr9 : ∀ i, 0 ≤ i → i < ln l → σ c i = gt l i) : CI M_Trip_isPaired 0 [vR 2, vR c, vI (ln l)] σ (fun r σ' => (fst1 (pr1 D l) (ln l) = ln l ∧ r = 1 ∧ σ' = σ) ∨ (fst1 (pr1 D l) (ln l) < ln l ∧ r = 0 ∧ σ' = wr σ 2 8 (fst1 (pr1 D l) (ln l)))) := by
  have hn := hO.1
  have hl12 := hl.1
  have hl0 := ln0 l
  have hle := fst1_le (p := pr1 D l) hl0
  have hml : ∀ i, i ≤ ln l → msk l i < 4096 := fun i hi => msk_lt hl hn.2.1 hi
  have k2 : ∀ i, 0 ≤ i → i ≤ ln l → (∀ j, 0 ≤ j → j < i → pr1 D l j = false) → Run M_Trip_isPaired (rxI 0 (fun r σ' => (fst1 (pr1 D l) (ln l) = ln l ∧ r = 1 ∧ σ' = σ) ∨ (fst1 (pr1 D l) (ln l) < ln l ∧ r = 0 ∧ σ' = wr σ 2 8 (fst1 (pr1 D l) (ln l))))) (0, 0) 32 [vR 2, vR c, vI (ln l), vI ((msk l (ln l) : Nat) : Int), vI ((msk l i : Nat) : Int), vI i, vU, vU, vU] [] (sg σ) := by
    refine up_ind (b := ln l) ?_ ?_
    · intro hp
      refine r_iload 5 d_Trip_isPaired_32 rfl ?_
      refine r_iload_n 2 d_Trip_isPaired_34 rfl rfl ?_
      refine r_icmp_ge 117 d_Trip_isPaired_35 rfl (by omega) (by omega) (fun h35 => ?_) (fun h35 => absurd h35 (by omega))
      refine r_iconst d_Trip_isPaired_117 ?_
      refine q_zret d_Trip_isPaired_118 rfl (by omega) ?_
      exact Or.inl ⟨fst1_none hl0 hp, rfl, rfl⟩
    · intro i i0 i1 ih hp
      have hs := hl.2 i i0 i1
      have hr1 := hr9 i i0 i1
      have hat := hC.at hs.1 (by omega)
      have hd := hO.2.1 _ hs.1 hs.2
      have hd2 := hO.2.2.1 _ hs.1 hs.2
      have hmi := hml i (by omega)
      have hmn := hml (ln l) (by omega)
      have hkd : σ 10 (gt l i) = D 0 (gt l i) := hat.1
      have hmt : σ 16 (gt l i) = D 6 (gt l i) := hat.2.2.2.2.2.1
      have bitA : ∀ m : Int, 0 ≤ m → ((msk l (ln l)).testBit m.toNat = true ↔ m ∈ l) := fun m m0 => by
        rw [msk_bit hl0, mem_gt]
        constructor
        · rintro ⟨j, j0, j1, j2⟩; exact ⟨j, j0, j1, by have := hl.2 j j0 j1; omega⟩
        · rintro ⟨j, j0, j1, j2⟩; exact ⟨j, j0, j1, by rw [j2]⟩
      have bitB : ∀ m : Int, 0 ≤ m → ((msk l i).testBit m.toNat = true ↔ m ∈ l.take i.toNat) := fun m m0 => by
        rw [msk_bit i0, mem_take i0 (by omega)]
        constructor
        · rintro ⟨j, j0, j1, j2⟩; exact ⟨j, j0, j1, by have := hl.2 j j0 (by omega); omega⟩
        · rintro ⟨j, j0, j1, j2⟩; exact ⟨j, j0, j1, by rw [j2]⟩
      have good : pr1 D l i = false → ∀ j, 0 ≤ j → j < i + 1 → pr1 D l j = false := fun h j j0 j1 => by
        by_cases e : j = i
        · rw [e]; exact h
        · exact hp j j0 (by omega)
      have bad : pr1 D l i = true → fst1 (pr1 D l) (ln l) = i := fun h => fst1_of i0 i1 h hp
      refine r_iload 5 d_Trip_isPaired_32 rfl ?_
      refine r_iload_n 2 d_Trip_isPaired_34 rfl rfl ?_
      refine r_icmp_ge 117 d_Trip_isPaired_35 rfl (by omega) (by omega) (fun h35 => absurd h35 (by omega)) (fun h35 => ?_)
      refine r_aload_n 1 d_Trip_isPaired_38 rfl rfl ?_
      refine r_iload 5 d_Trip_isPaired_39 rfl ?_
      refine r_iald 12 d_Trip_isPaired_41 hk ha (by omega) (by omega) ?_
      rw [hr1]
      refine r_istore 6 d_Trip_isPaired_42 (by decide) rfl ?_
      refine r_aload_n 0 d_Trip_isPaired_44 rfl rfl ?_
      refine r_getR 9 d_Trip_isPaired_45 fk_Trip_21 rfl rfl rfl (by decide) ?_
      refine r_getR 16 d_Trip_isPaired_48 fk_Trip_100 rfl rfl rfl (by decide) ?_
      refine r_iload 6 d_Trip_isPaired_51 rfl ?_
      refine r_iald 12 d_Trip_isPaired_53 rfl rfl (by omega) (by omega) ?_
      rw [hmt]
      refine r_istore 7 d_Trip_isPaired_54 (by decide) rfl ?_
      refine r_aload_n 0 d_Trip_isPaired_56 rfl rfl ?_
      refine r_getR 9 d_Trip_isPaired_57 fk_Trip_21 rfl rfl rfl (by decide) ?_
      refine r_getR 10 d_Trip_isPaired_60 fk_Trip_97 rfl rfl rfl (by decide) ?_
      refine r_iload 6 d_Trip_isPaired_63 rfl ?_
      refine r_iald 12 d_Trip_isPaired_65 rfl rfl (by omega) (by omega) ?_
      rw [hkd]
      refine r_iconst d_Trip_isPaired_66 ?_
      refine r_icmp_ne 75 d_Trip_isPaired_67 rfl (by omega) (by omega) (fun h67 => ?_) (fun h67 => ?_)
      · refine r_iload_n 3 d_Trip_isPaired_75 rfl rfl ?_
        refine r_istore 8 d_Trip_isPaired_76 (by decide) rfl ?_
        refine r_iload 7 d_Trip_isPaired_78 rfl ?_
        refine r_iconst d_Trip_isPaired_80 ?_
        refine r_icmp_eq 102 d_Trip_isPaired_81 rfl (by omega) (by omega) (fun h81 => ?_) (fun h81 => ?_)
        · refine r_iload 4 d_Trip_isPaired_102 rfl ?_
          refine r_iconst d_Trip_isPaired_104 ?_
          refine r_iload 6 d_Trip_isPaired_105 rfl ?_
          refine r_ishl d_Trip_isPaired_107 (nb_shl (by omega) (by omega)) ?_
          refine r_ior d_Trip_isPaired_108 (nb_or _ _) ?_
          refine r_istore 4 d_Trip_isPaired_109 (by decide) rfl ?_
          refine r_iinc 5 d_Trip_isPaired_111 rfl (by decide) rfl ?_
          refine r_goto 32 d_Trip_isPaired_114 rfl ?_
          have hg : pr1 D l i = false := by
            refine decide_eq_false ?_
            rintro (⟨a, b⟩ | ⟨a, b, c⟩)
            · first | omega | (have := hd2.2 a; omega) | exact b ((bitB _ (by omega)).mp (bit_ne h91))
            · first | omega | exact c ((bitA _ b).mp (bit_ne h91))
          refine r_drop 6 (r_drop 7 (r_drop 8 ?_))
          have ih2 := ih (good hg)
          rw [msk_s i0] at ih2
          exact ih2
        · refine r_iload 8 d_Trip_isPaired_84 rfl ?_
          refine r_iload 7 d_Trip_isPaired_86 rfl ?_
          refine r_ishr d_Trip_isPaired_88 (nb_shr (by assumption) (by omega) (by omega)) ?_
          refine r_iconst d_Trip_isPaired_89 ?_
          refine r_iand d_Trip_isPaired_90 (nb_and (by have := Nat.div_le_self (msk l i) (2 ^ (D 6 (gt l i)).toNat); have := Nat.div_le_self (msk l (ln l)) (2 ^ (D 6 (gt l i)).toNat); omega)) ?_
          refine r_if_ne 102 d_Trip_isPaired_91 rfl (by omega) (fun h91 => ?_) (fun h91 => ?_)
          · refine r_iload 4 d_Trip_isPaired_102 rfl ?_
            refine r_iconst d_Trip_isPaired_104 ?_
            refine r_iload 6 d_Trip_isPaired_105 rfl ?_
            refine r_ishl d_Trip_isPaired_107 (nb_shl (by omega) (by omega)) ?_
            refine r_ior d_Trip_isPaired_108 (nb_or _ _) ?_
            refine r_istore 4 d_Trip_isPaired_109 (by decide) rfl ?_
            refine r_iinc 5 d_Trip_isPaired_111 rfl (by decide) rfl ?_
            refine r_goto 32 d_Trip_isPaired_114 rfl ?_
            have hg : pr1 D l i = false := by
              refine decide_eq_false ?_
              rintro (⟨a, b⟩ | ⟨a, b, c⟩)
              · first | omega | (have := hd2.2 a; omega) | exact b ((bitB _ (by omega)).mp (bit_ne h91))
              · first | omega | exact c ((bitA _ b).mp (bit_ne h91))
            refine r_drop 6 (r_drop 7 (r_drop 8 ?_))
            have ih2 := ih (good hg)
            rw [msk_s i0] at ih2
            exact ih2
          · refine r_aload_n 0 d_Trip_isPaired_94 rfl rfl ?_
            refine r_iload 5 d_Trip_isPaired_95 rfl ?_
            refine r_putI 8 d_Trip_isPaired_97 fk_Trip_54 rfl rfl rfl (Or.inl rfl) ?_
            refine r_iconst d_Trip_isPaired_100 ?_
            refine q_zret d_Trip_isPaired_101 rfl (by omega) ?_
            have hb : pr1 D l i = true := by
              refine decide_eq_true ?_
              first
                | exact Or.inl ⟨h67, fun q => by have := (bitB _ (by omega)).mpr q; rw [bit_eq h91] at this; cases this⟩
                | exact Or.inr ⟨by have := hd2.1 (by omega); omega, by omega, fun q => by have := (bitA _ (by omega)).mpr q; rw [bit_eq h91] at this; cases this⟩
            exact Or.inr ⟨by rw [bad hb]; exact i1, rfl, by rw [bad hb]⟩
      · refine r_iload 4 d_Trip_isPaired_70 rfl ?_
        refine r_goto 76 d_Trip_isPaired_72 rfl ?_
        refine r_istore 8 d_Trip_isPaired_76 (by decide) rfl ?_
        refine r_iload 7 d_Trip_isPaired_78 rfl ?_
        refine r_iconst d_Trip_isPaired_80 ?_
        refine r_icmp_eq 102 d_Trip_isPaired_81 rfl (by omega) (by omega) (fun h81 => ?_) (fun h81 => ?_)
        · refine r_iload 4 d_Trip_isPaired_102 rfl ?_
          refine r_iconst d_Trip_isPaired_104 ?_
          refine r_iload 6 d_Trip_isPaired_105 rfl ?_
          refine r_ishl d_Trip_isPaired_107 (nb_shl (by omega) (by omega)) ?_
          refine r_ior d_Trip_isPaired_108 (nb_or _ _) ?_
          refine r_istore 4 d_Trip_isPaired_109 (by decide) rfl ?_
          refine r_iinc 5 d_Trip_isPaired_111 rfl (by decide) rfl ?_
          refine r_goto 32 d_Trip_isPaired_114 rfl ?_
          have hg : pr1 D l i = false := by
            refine decide_eq_false ?_
            rintro (⟨a, b⟩ | ⟨a, b, c⟩)
            · first | omega | (have := hd2.2 a; omega) | exact b ((bitB _ (by omega)).mp (bit_ne h91))
            · first | omega | exact c ((bitA _ b).mp (bit_ne h91))
          refine r_drop 6 (r_drop 7 (r_drop 8 ?_))
          have ih2 := ih (good hg)
          rw [msk_s i0] at ih2
          exact ih2
        · refine r_iload 8 d_Trip_isPaired_84 rfl ?_
          refine r_iload 7 d_Trip_isPaired_86 rfl ?_
          refine r_ishr d_Trip_isPaired_88 (nb_shr (by assumption) (by omega) (by omega)) ?_
          refine r_iconst d_Trip_isPaired_89 ?_
          refine r_iand d_Trip_isPaired_90 (nb_and (by have := Nat.div_le_self (msk l i) (2 ^ (D 6 (gt l i)).toNat); have := Nat.div_le_self (msk l (ln l)) (2 ^ (D 6 (gt l i)).toNat); omega)) ?_
          refine r_if_ne 102 d_Trip_isPaired_91 rfl (by omega) (fun h91 => ?_) (fun h91 => ?_)
          · refine r_iload 4 d_Trip_isPaired_102 rfl ?_
            refine r_iconst d_Trip_isPaired_104 ?_
            refine r_iload 6 d_Trip_isPaired_105 rfl ?_
            refine r_ishl d_Trip_isPaired_107 (nb_shl (by omega) (by omega)) ?_
            refine r_ior d_Trip_isPaired_108 (nb_or _ _) ?_
            refine r_istore 4 d_Trip_isPaired_109 (by decide) rfl ?_
            refine r_iinc 5 d_Trip_isPaired_111 rfl (by decide) rfl ?_
            refine r_goto 32 d_Trip_isPaired_114 rfl ?_
            have hg : pr1 D l i = false := by
              refine decide_eq_false ?_
              rintro (⟨a, b⟩ | ⟨a, b, c⟩)
              · first | omega | (have := hd2.2 a; omega) | exact b ((bitB _ (by omega)).mp (bit_ne h91))
              · first | omega | exact c ((bitA _ b).mp (bit_ne h91))
            refine r_drop 6 (r_drop 7 (r_drop 8 ?_))
            have ih2 := ih (good hg)
            rw [msk_s i0] at ih2
            exact ih2
          · refine r_aload_n 0 d_Trip_isPaired_94 rfl rfl ?_
            refine r_iload 5 d_Trip_isPaired_95 rfl ?_
            refine r_putI 8 d_Trip_isPaired_97 fk_Trip_54 rfl rfl rfl (Or.inl rfl) ?_
            refine r_iconst d_Trip_isPaired_100 ?_
            refine q_zret d_Trip_isPaired_101 rfl (by omega) ?_
            have hb : pr1 D l i = true := by
              refine decide_eq_true ?_
              first
                | exact Or.inl ⟨h67, fun q => by have := (bitB _ (by omega)).mpr q; rw [bit_eq h91] at this; cases this⟩
                | exact Or.inr ⟨by have := hd2.1 (by omega); omega, by omega, fun q => by have := (bitA _ (by omega)).mpr q; rw [bit_eq h91] at this; cases this⟩
            exact Or.inr ⟨by rw [bad hb]; exact i1, rfl, by rw [bad hb]⟩
  have k1 : ∀ i, 0 ≤ i → i ≤ ln l → Run M_Trip_isPaired (rxI 0 (fun r σ' => (fst1 (pr1 D l) (ln l) = ln l ∧ r = 1 ∧ σ' = σ) ∨ (fst1 (pr1 D l) (ln l) < ln l ∧ r = 0 ∧ σ' = wr σ 2 8 (fst1 (pr1 D l) (ln l))))) (0, 0) 5 [vR 2, vR c, vI (ln l), vI ((msk l i : Nat) : Int), vI i, vU, vU, vU, vU] [] (sg σ) := by
    refine up_ind (b := ln l) ?_ ?_
    · skip
      refine r_iload 4 d_Trip_isPaired_5 rfl ?_
      refine r_iload_n 2 d_Trip_isPaired_7 rfl rfl ?_
      refine r_icmp_ge 26 d_Trip_isPaired_8 rfl (by omega) (by omega) (fun h8 => ?_) (fun h8 => absurd h8 (by omega))
      refine r_iconst d_Trip_isPaired_26 ?_
      refine r_istore 4 d_Trip_isPaired_27 (by decide) rfl ?_
      refine r_iconst d_Trip_isPaired_29 ?_
      refine r_istore 5 d_Trip_isPaired_30 (by decide) rfl ?_
      exact k2 0 (by omega) hl0 (fun j j0 j1 => by omega)
    · intro i i0 i1 ih
      have hs := hl.2 i i0 i1
      have hr1 := hr9 i i0 i1
      refine r_iload 4 d_Trip_isPaired_5 rfl ?_
      refine r_iload_n 2 d_Trip_isPaired_7 rfl rfl ?_
      refine r_icmp_ge 26 d_Trip_isPaired_8 rfl (by omega) (by omega) (fun h8 => absurd h8 (by omega)) (fun h8 => ?_)
      refine r_iload_n 3 d_Trip_isPaired_11 rfl rfl ?_
      refine r_iconst d_Trip_isPaired_12 ?_
      refine r_aload_n 1 d_Trip_isPaired_13 rfl rfl ?_
      refine r_iload 4 d_Trip_isPaired_14 rfl ?_
      refine r_iald 12 d_Trip_isPaired_16 hk ha (by omega) (by omega) ?_
      rw [hr1]
      refine r_ishl d_Trip_isPaired_17 (nb_shl (by omega) (by omega)) ?_
      refine r_ior d_Trip_isPaired_18 (nb_or _ _) ?_
      refine r_istore_n 3 d_Trip_isPaired_19 rfl (by decide) rfl ?_
      refine r_iinc 4 d_Trip_isPaired_20 rfl (by decide) rfl ?_
      refine r_goto 5 d_Trip_isPaired_23 rfl ?_
      rw [msk_s i0] at ih
      exact ih
  refine ci_of [vR 2, vR c, vI (ln l), vU, vU, vU, vU, vU, vU] fy_Trip_isPaired.1 rfl (Nat.le_of_ble_eq_true rfl) ?_
  refine r_iconst d_Trip_isPaired_0 ?_
  refine r_istore_n 3 d_Trip_isPaired_1 rfl (by decide) rfl ?_
  refine r_iconst d_Trip_isPaired_2 ?_
  refine r_istore 4 d_Trip_isPaired_3 (by decide) rfl ?_
  exact k1 0 (by omega) hl0
theorem ld0_s {D : sto} {l : List Int} {i : Int} (h : 0 ≤ i) : ld0N D l (i + 1).toNat = ld0N D l i.toNat + (if D 0 (gt l i) = 1 ∨ D 0 (gt l i) = 2 then 0 else D 5 (gt l i)) := by
  rw [show (i + 1).toNat = i.toNat + 1 by omega]
  show ld0N D l i.toNat + (if D 0 (gt l ((i.toNat : Nat) : Int)) = 1 ∨ D 0 (gt l ((i.toNat : Nat) : Int)) = 2 then 0 else D 5 (gt l ((i.toNat : Nat) : Int))) = _
  rw [show ((i.toNat : Nat) : Int) = i by omega]
theorem ld0_n {D : sto} {l : List Int} : ld0N D l (ln l).toNat = ld0 D l := by
  unfold ld0 ln
  rw [Int.toNat_natCast]
theorem lda_0 {D : sto} {l : List Int} : lda D l 0 = ld0 D l := rfl
theorem ct_isCarried {σ D : sto} {ns nv c v : Int} {l : List Int} (hC : DC σ D ns nv) (hO : DOK D ns nv) (hl : RV ns l) (hk : KD c = 9) (ha : AL c = 12) (hc : 27 ≤ c) (hr9 : ∀ i, 0 ≤ i → i < ln l → σ c i = gt l i) (v0 : 0 ≤ v) (v1 : v < nv) : CI M_Trip_isCarried 1 [vR 2, vI v, vR c, vI (ln l)] σ (fun r σ' => (∀ c i, c ≠ 26 → (c ≠ 2 ∨ i ≠ 8) → σ' c i = σ c i) ∧ ((D 8 v < ld0 D l ∧ r = 0 ∧ σ' 2 8 = σ 2 8) ∨ (ld0 D l ≤ D 8 v ∧ fst1 (pr2 D v l) (ln l) < ln l ∧ r = 0 ∧ σ' 2 8 = fst1 (pr2 D v l) (ln l)) ∨ (ld0 D l ≤ D 8 v ∧ fst1 (pr2 D v l) (ln l) = ln l ∧ r = 1 ∧ σ' 2 8 = σ 2 8 ∧ ∀ i, 0 ≤ i → i < ln l → σ' 26 i = lda D l (i + 1)))) := by
  have hn := hO.1
  have hl12 := hl.1
  have hl0 := ln0 l
  have hvv := hC.van v0 (by omega)
  have hvd := hO.2.2.2.1 v v0 v1
  have hll : ∀ i, 0 ≤ i → i ≤ ln l → -1200 ≤ lda D l i ∧ lda D l i ≤ 2400 := fun i i0 i1 => lda_in hO hl i0 i1
  have hl0l := hll 0 (by omega) hl0
  rw [lda_0] at hl0l
  have k2 : ∀ i, 0 ≤ i → i ≤ ln l → ∀ σ2 : sto, (∀ c i, c ≠ 26 → σ2 c i = σ c i) → (∀ j, 0 ≤ j → j < i → σ2 26 j = lda D l (j + 1)) → ld0 D l ≤ D 8 v → (∀ j, 0 ≤ j → j < i → pr2 D v l j = false) → Run M_Trip_isCarried (rxI 1 (fun r σ' => (∀ c i, c ≠ 26 → (c ≠ 2 ∨ i ≠ 8) → σ' c i = σ c i) ∧ ((D 8 v < ld0 D l ∧ r = 0 ∧ σ' 2 8 = σ 2 8) ∨ (ld0 D l ≤ D 8 v ∧ fst1 (pr2 D v l) (ln l) < ln l ∧ r = 0 ∧ σ' 2 8 = fst1 (pr2 D v l) (ln l)) ∨ (ld0 D l ≤ D 8 v ∧ fst1 (pr2 D v l) (ln l) = ln l ∧ r = 1 ∧ σ' 2 8 = σ 2 8 ∧ ∀ i, 0 ≤ i → i < ln l → σ' 26 i = lda D l (i + 1))))) (0, 0) 68 [vR 2, vI v, vR c, vI (ln l), vI (lda D l i), vI i, vU] [] (sg σ2) := by
    refine up_ind (b := ln l) ?_ ?_
    · intro σ2 hF h26 h00 hp
      refine r_iload 5 d_Trip_isCarried_68 rfl ?_
      refine r_iload_n 3 d_Trip_isCarried_70 rfl rfl ?_
      refine r_icmp_ge 154 d_Trip_isCarried_71 rfl (by omega) (by omega) (fun h71 => ?_) (fun h71 => absurd h71 (by omega))
      refine r_iconst d_Trip_isCarried_154 ?_
      refine q_zret d_Trip_isCarried_155 rfl (by omega) ?_
      exact ⟨fun c i h1 h2 => hF c i h1, Or.inr (Or.inr ⟨h00, fst1_none hl0 hp, rfl, hF 2 8 (by omega), h26⟩)⟩
    · intro i i0 i1 ih σ2 hF h26 h00 hp
      have hs := hl.2 i i0 i1
      have hr1 : σ2 c i = gt l i := by rw [hF c i (by omega)]; exact hr9 i i0 i1
      have hC2 : DC σ2 D ns nv := hC.keep (fun c i h => hF c i (by omega))
      have hat := hC2.at hs.1 (by omega)
      have hd := hO.2.1 _ hs.1 hs.2
      have hlm := hll (i + 1) (by omega) (by omega)
      have hls := lda_s (D := D) (l := l) i0
      have hv2 := hC2.van v0 (by omega)
      have fin : ∀ σ3 : sto, (∀ c i, c ≠ 26 → σ3 c i = σ2 c i) → (∀ j, j ≠ i → σ3 26 j = σ2 26 j) → σ3 26 i = lda D l (i + 1) → ∀ j, 0 ≤ j → j < i + 1 → σ3 26 j = lda D l (j + 1) := fun σ3 h1 h2 h3 j j0 j1 => by
        by_cases e : j = i
        · rw [e]; exact h3
        · rw [h2 j e]; exact h26 j j0 (by omega)
      refine r_iload 5 d_Trip_isCarried_68 rfl ?_
      refine r_iload_n 3 d_Trip_isCarried_70 rfl rfl ?_
      refine r_icmp_ge 154 d_Trip_isCarried_71 rfl (by omega) (by omega) (fun h71 => absurd h71 (by omega)) (fun h71 => ?_)
      refine r_aload_n 0 d_Trip_isCarried_74 rfl rfl ?_
      refine r_getR 9 d_Trip_isCarried_75 fk_Trip_21 rfl rfl rfl (by decide) ?_
      refine r_getR 15 d_Trip_isCarried_78 fk_Trip_107 rfl rfl rfl (by decide) ?_
      refine r_aload_n 2 d_Trip_isCarried_81 rfl rfl ?_
      refine r_iload 5 d_Trip_isCarried_82 rfl ?_
      refine r_iald 12 d_Trip_isCarried_84 hk ha (by omega) (by omega) ?_
      rw [hr1]
      refine r_iald 12 d_Trip_isCarried_85 rfl rfl (by omega) (by omega) ?_
      rw [hC2.am hs.1 hs.2]
      refine r_istore 6 d_Trip_isCarried_86 (by decide) rfl ?_
      refine r_iload 4 d_Trip_isCarried_88 rfl ?_
      refine r_aload_n 0 d_Trip_isCarried_90 rfl rfl ?_
      refine r_getR 9 d_Trip_isCarried_91 fk_Trip_21 rfl rfl rfl (by decide) ?_
      refine r_getR 10 d_Trip_isCarried_94 fk_Trip_97 rfl rfl rfl (by decide) ?_
      refine r_aload_n 2 d_Trip_isCarried_97 rfl rfl ?_
      refine r_iload 5 d_Trip_isCarried_98 rfl ?_
      refine r_iald 12 d_Trip_isCarried_100 hk ha (by omega) (by omega) ?_
      rw [hr1]
      refine r_iald 12 d_Trip_isCarried_101 rfl rfl (by omega) (by omega) ?_
      rw [hat.1]
      refine r_iconst d_Trip_isCarried_102 ?_
      refine r_icmp_ne 111 d_Trip_isCarried_103 rfl (by omega) (by omega) (fun h103 => ?_) (fun h103 => ?_)
      · rw [if_neg h103] at hls
        refine r_iload 6 d_Trip_isCarried_111 rfl ?_
        refine r_ineg d_Trip_isCarried_113 ?_
        refine r_iadd d_Trip_isCarried_114 ?_
        rw [← hls]
        refine r_istore 4 d_Trip_isCarried_115 (by decide) rfl ?_
        refine r_aload_n 0 d_Trip_isCarried_117 rfl rfl ?_
        refine r_getR 26 d_Trip_isCarried_118 fk_Trip_42 rfl rfl rfl (by decide) ?_
        refine r_iload 5 d_Trip_isCarried_121 rfl ?_
        refine r_iload 4 d_Trip_isCarried_123 rfl ?_
        refine r_iast 12 d_Trip_isCarried_125 rfl rfl (by omega) (by omega) ?_
        refine r_iload 4 d_Trip_isCarried_126 rfl ?_
        refine r_aload_n 0 d_Trip_isCarried_128 rfl rfl ?_
        refine r_getR 18 d_Trip_isCarried_129 fk_Trip_28 rfl rfl rfl (by decide) ?_
        refine r_getR 19 d_Trip_isCarried_132 fk_Trip_110 rfl rfl rfl (by decide) ?_
        refine r_iload_n 1 d_Trip_isCarried_135 rfl rfl ?_
        refine r_iald 3 d_Trip_isCarried_136 rfl rfl (by omega) (by omega) ?_
        rw [wr_ne (by omega), hv2.1]
        refine r_icmp_le 148 d_Trip_isCarried_137 rfl (by omega) (by omega) (fun h137 => ?_) (fun h137 => ?_)
        · refine r_iinc 5 d_Trip_isCarried_148 rfl (by decide) rfl ?_
          refine r_goto 68 d_Trip_isCarried_151 rfl ?_
          refine r_drop 6 (ih _ (fun c i h => by rw [wr_ne (Or.inl h)]; exact hF c i h) (fin _ (fun c i h => wr_ne (Or.inl h)) (fun j h => wr_ne (Or.inr h)) wr_eq) h00 (fun j j0 j1 => ?_))
          by_cases e : j = i
          · rw [e]; exact decide_eq_false (by omega)
          · exact hp j j0 (by omega)
        · refine r_aload_n 0 d_Trip_isCarried_140 rfl rfl ?_
          refine r_iload 5 d_Trip_isCarried_141 rfl ?_
          refine r_putI 8 d_Trip_isCarried_143 fk_Trip_54 rfl rfl rfl (Or.inl rfl) ?_
          refine r_iconst d_Trip_isCarried_146 ?_
          refine q_zret d_Trip_isCarried_147 rfl (by omega) ?_
          have hb : fst1 (pr2 D v l) (ln l) = i := fst1_of i0 i1 (decide_eq_true h137) hp
          exact ⟨fun c i h1 h2 => by rw [wr_ne h2, wr_ne (Or.inl h1)]; exact hF c i h1, Or.inr (Or.inl ⟨h00, by rw [hb]; exact i1, rfl, by rw [wr_eq, hb]⟩)⟩
      · rw [if_pos h103] at hls
        refine r_iload 6 d_Trip_isCarried_106 rfl ?_
        refine r_goto 114 d_Trip_isCarried_108 rfl ?_
        refine r_iadd d_Trip_isCarried_114 ?_
        rw [← hls]
        refine r_istore 4 d_Trip_isCarried_115 (by decide) rfl ?_
        refine r_aload_n 0 d_Trip_isCarried_117 rfl rfl ?_
        refine r_getR 26 d_Trip_isCarried_118 fk_Trip_42 rfl rfl rfl (by decide) ?_
        refine r_iload 5 d_Trip_isCarried_121 rfl ?_
        refine r_iload 4 d_Trip_isCarried_123 rfl ?_
        refine r_iast 12 d_Trip_isCarried_125 rfl rfl (by omega) (by omega) ?_
        refine r_iload 4 d_Trip_isCarried_126 rfl ?_
        refine r_aload_n 0 d_Trip_isCarried_128 rfl rfl ?_
        refine r_getR 18 d_Trip_isCarried_129 fk_Trip_28 rfl rfl rfl (by decide) ?_
        refine r_getR 19 d_Trip_isCarried_132 fk_Trip_110 rfl rfl rfl (by decide) ?_
        refine r_iload_n 1 d_Trip_isCarried_135 rfl rfl ?_
        refine r_iald 3 d_Trip_isCarried_136 rfl rfl (by omega) (by omega) ?_
        rw [wr_ne (by omega), hv2.1]
        refine r_icmp_le 148 d_Trip_isCarried_137 rfl (by omega) (by omega) (fun h137 => ?_) (fun h137 => ?_)
        · refine r_iinc 5 d_Trip_isCarried_148 rfl (by decide) rfl ?_
          refine r_goto 68 d_Trip_isCarried_151 rfl ?_
          refine r_drop 6 (ih _ (fun c i h => by rw [wr_ne (Or.inl h)]; exact hF c i h) (fin _ (fun c i h => wr_ne (Or.inl h)) (fun j h => wr_ne (Or.inr h)) wr_eq) h00 (fun j j0 j1 => ?_))
          by_cases e : j = i
          · rw [e]; exact decide_eq_false (by omega)
          · exact hp j j0 (by omega)
        · refine r_aload_n 0 d_Trip_isCarried_140 rfl rfl ?_
          refine r_iload 5 d_Trip_isCarried_141 rfl ?_
          refine r_putI 8 d_Trip_isCarried_143 fk_Trip_54 rfl rfl rfl (Or.inl rfl) ?_
          refine r_iconst d_Trip_isCarried_146 ?_
          refine q_zret d_Trip_isCarried_147 rfl (by omega) ?_
          have hb : fst1 (pr2 D v l) (ln l) = i := fst1_of i0 i1 (decide_eq_true h137) hp
          exact ⟨fun c i h1 h2 => by rw [wr_ne h2, wr_ne (Or.inl h1)]; exact hF c i h1, Or.inr (Or.inl ⟨h00, by rw [hb]; exact i1, rfl, by rw [wr_eq, hb]⟩)⟩
  have k1 : ∀ i, 0 ≤ i → i ≤ ln l → Run M_Trip_isCarried (rxI 1 (fun r σ' => (∀ c i, c ≠ 26 → (c ≠ 2 ∨ i ≠ 8) → σ' c i = σ c i) ∧ ((D 8 v < ld0 D l ∧ r = 0 ∧ σ' 2 8 = σ 2 8) ∨ (ld0 D l ≤ D 8 v ∧ fst1 (pr2 D v l) (ln l) < ln l ∧ r = 0 ∧ σ' 2 8 = fst1 (pr2 D v l) (ln l)) ∨ (ld0 D l ≤ D 8 v ∧ fst1 (pr2 D v l) (ln l) = ln l ∧ r = 1 ∧ σ' 2 8 = σ 2 8 ∧ ∀ i, 0 ≤ i → i < ln l → σ' 26 i = lda D l (i + 1))))) (0, 0) 6 [vR 2, vI v, vR c, vI (ln l), vI (ld0N D l i.toNat), vI i, vU] [] (sg σ) := by
    refine up_ind (b := ln l) ?_ ?_
    · rw [ld0_n]
      refine r_iload 5 d_Trip_isCarried_6 rfl ?_
      refine r_iload_n 3 d_Trip_isCarried_8 rfl rfl ?_
      refine r_icmp_ge 49 d_Trip_isCarried_9 rfl (by omega) (by omega) (fun h9 => ?_) (fun h9 => absurd h9 (by omega))
      refine r_iload 4 d_Trip_isCarried_49 rfl ?_
      refine r_aload_n 0 d_Trip_isCarried_51 rfl rfl ?_
      refine r_getR 18 d_Trip_isCarried_52 fk_Trip_28 rfl rfl rfl (by decide) ?_
      refine r_getR 19 d_Trip_isCarried_55 fk_Trip_110 rfl rfl rfl (by decide) ?_
      refine r_iload_n 1 d_Trip_isCarried_58 rfl rfl ?_
      refine r_iald 3 d_Trip_isCarried_59 rfl rfl (by omega) (by omega) ?_
      rw [hvv.1]
      refine r_icmp_le 65 d_Trip_isCarried_60 rfl (by omega) (by omega) (fun h60 => ?_) (fun h60 => ?_)
      · refine r_iconst d_Trip_isCarried_65 ?_
        refine r_istore 5 d_Trip_isCarried_66 (by decide) rfl ?_
        exact k2 0 (by omega) hl0 σ (fun _ _ _ => rfl) (fun j j0 j1 => by omega) h60 (fun j j0 j1 => by omega)
      · refine r_iconst d_Trip_isCarried_63 ?_
        refine q_zret d_Trip_isCarried_64 rfl (by omega) ?_
        exact ⟨fun _ _ _ _ => rfl, Or.inl ⟨h60, rfl, rfl⟩⟩
    · intro i i0 i1 ih
      have hs := hl.2 i i0 i1
      have hr1 := hr9 i i0 i1
      have hd := hO.2.1 _ hs.1 hs.2
      have h5 := hC.2.2.2.1 _ hs.1 hs.2
      rw [ld0_s i0] at ih
      refine r_iload 5 d_Trip_isCarried_6 rfl ?_
      refine r_iload_n 3 d_Trip_isCarried_8 rfl rfl ?_
      refine r_icmp_ge 49 d_Trip_isCarried_9 rfl (by omega) (by omega) (fun h9 => absurd h9 (by omega)) (fun h9 => ?_)
      refine r_aload_n 0 d_Trip_isCarried_12 rfl rfl ?_
      refine r_getR 9 d_Trip_isCarried_13 fk_Trip_21 rfl rfl rfl (by decide) ?_
      refine r_aload_n 2 d_Trip_isCarried_16 rfl rfl ?_
      refine r_iload 5 d_Trip_isCarried_17 rfl ?_
      refine r_iald 12 d_Trip_isCarried_19 hk ha (by omega) (by omega) ?_
      rw [hr1]
      refine r_cVP 3 d_Trip_isCarried_20 lk_Trip_103 vc_Stops_isAboardAtFirst (ct_isAboard hC hO hs.1 hs.2) rfl rfl rfl rfl ⟨Nat.le_of_ble_eq_true rfl, Nat.le_of_ble_eq_true rfl⟩ ⟨Nat.zero_le _, Nat.zero_le _⟩ (Nat.le_of_ble_eq_true rfl) ?_
      refine r_if_eq 43 d_Trip_isCarried_23 rfl (by split <;> omega) (fun h23 => ?_) (fun h23 => ?_)
      · refine r_iinc 5 d_Trip_isCarried_43 rfl (by decide) rfl ?_
        refine r_goto 6 d_Trip_isCarried_46 rfl ?_
        first
          | (by_cases e : D 0 (gt l i) = 1 ∨ D 0 (gt l i) = 2
             · rw [if_pos e] at ih h23; first | exact absurd rfl h23 | (rw [Int.add_zero] at ih; exact ih)
             · rw [if_neg e] at ih h23; first | (cases h23; done) | (rw [← h5] at ih; exact ih))
      · refine r_iload 4 d_Trip_isCarried_26 rfl ?_
        refine r_aload_n 0 d_Trip_isCarried_28 rfl rfl ?_
        refine r_getR 9 d_Trip_isCarried_29 fk_Trip_21 rfl rfl rfl (by decide) ?_
        refine r_getR 15 d_Trip_isCarried_32 fk_Trip_107 rfl rfl rfl (by decide) ?_
        refine r_aload_n 2 d_Trip_isCarried_35 rfl rfl ?_
        refine r_iload 5 d_Trip_isCarried_36 rfl ?_
        refine r_iald 12 d_Trip_isCarried_38 hk ha (by omega) (by omega) ?_
        rw [hr1]
        refine r_iald 12 d_Trip_isCarried_39 rfl rfl (by omega) (by omega) ?_
        refine r_iadd d_Trip_isCarried_40 ?_
        refine r_istore 4 d_Trip_isCarried_41 (by decide) rfl ?_
        refine r_iinc 5 d_Trip_isCarried_43 rfl (by decide) rfl ?_
        refine r_goto 6 d_Trip_isCarried_46 rfl ?_
        first
          | (by_cases e : D 0 (gt l i) = 1 ∨ D 0 (gt l i) = 2
             · rw [if_pos e] at ih h23; first | exact absurd rfl h23 | (rw [Int.add_zero] at ih; exact ih)
             · rw [if_neg e] at ih h23; first | (cases h23; done) | (rw [← h5] at ih; exact ih))
  refine ci_of [vR 2, vI v, vR c, vI (ln l), vU, vU, vU] fy_Trip_isCarried.1 rfl (Nat.le_of_ble_eq_true rfl) ?_
  refine r_iconst d_Trip_isCarried_0 ?_
  refine r_istore 4 d_Trip_isCarried_1 (by decide) rfl ?_
  refine r_iconst d_Trip_isCarried_3 ?_
  refine r_istore 5 d_Trip_isCarried_4 (by decide) rfl ?_
  exact k1 0 (by omega) hl0
theorem wr_c {σ : sto} {c i v c' i' : Int} (h : c' ≠ c) : wr σ c i v c' i' = σ c' i' := wr_ne (Or.inl h)
theorem ct_isInTime {σ D : sto} {ns nv c v : Int} {l : List Int} (hC : DC σ D ns nv) (hO : DOK D ns nv) (hl : RV ns l) (hk : KD c = 9) (ha : AL c = 12) (hc : 27 ≤ c) (hr9 : ∀ i, 0 ≤ i → i < ln l → σ c i = gt l i) (v0 : 0 ≤ v) (v1 : v < nv) {B : Int} (hT : TC σ D B) (hB : B ≤ 4000) : CI M_Trip_isInTime 3 [vR 2, vI v, vR c, vI (ln l)] σ (fun r σ' => (∀ c i, c ≠ 2 → c ≠ 7 → c ≠ 8 → (c < 23 ∨ 25 < c) → σ' c i = σ c i) ∧ TC σ' D B ∧ ((fst1 (pr3 D v l) (ln l) < ln l ∧ r = 0 ∧ σ' 2 8 = fst1 (pr3 D v l) (ln l)) ∨ (fst1 (pr3 D v l) (ln l) = ln l ∧ r = 1 ∧ σ' 2 8 = σ 2 8 ∧ σ' 2 9 = σ 2 9 + ex D v l (ln l) ∧ σ' 2 10 = σ 2 10 + wt D v l (ln l) ∧ σ' 2 11 = σ 2 11 + lt9 D v l (ln l) ∧ ∀ i, 0 ≤ i → i < ln l → σ' 23 i = cm D v l i ∧ σ' 24 i = bg D v l i ∧ σ' 25 i = mt D v l (i + 1)))) := by
  have hn := hO.1
  have hl12 := hl.1
  have hl0 := ln0 l
  have hvv := hC.van v0 (by omega)
  have hS := hO.2.2.2.2
  have key : ∀ i, 0 ≤ i → i ≤ ln l → ∀ σ1 : sto, (∀ c i, c ≠ 2 → c ≠ 7 → c ≠ 8 → (c < 23 ∨ 25 < c) → σ1 c i = σ c i) → TC σ1 D B → σ1 2 8 = σ 2 8 → σ1 2 9 = σ 2 9 + ex D v l i → σ1 2 10 = σ 2 10 + wt D v l i → σ1 2 11 = σ 2 11 + lt9 D v l i → (∀ j, 0 ≤ j → j < i → σ1 23 j = cm D v l j ∧ σ1 24 j = bg D v l j ∧ σ1 25 j = mt D v l (j + 1)) → (∀ j, 0 ≤ j → j < i → pr3 D v l j = false) → Run M_Trip_isInTime (rxI 3 (fun r σ' => (∀ c i, c ≠ 2 → c ≠ 7 → c ≠ 8 → (c < 23 ∨ 25 < c) → σ' c i = σ c i) ∧ TC σ' D B ∧ ((fst1 (pr3 D v l) (ln l) < ln l ∧ r = 0 ∧ σ' 2 8 = fst1 (pr3 D v l) (ln l)) ∨ (fst1 (pr3 D v l) (ln l) = ln l ∧ r = 1 ∧ σ' 2 8 = σ 2 8 ∧ σ' 2 9 = σ 2 9 + ex D v l (ln l) ∧ σ' 2 10 = σ 2 10 + wt D v l (ln l) ∧ σ' 2 11 = σ 2 11 + lt9 D v l (ln l) ∧ ∀ i, 0 ≤ i → i < ln l → σ' 23 i = cm D v l i ∧ σ' 24 i = bg D v l i ∧ σ' 25 i = mt D v l (i + 1))))) (0, 0) 17 [vR 2, vI v, vR c, vI (ln l), vI (hr D l i), vI (mt D v l i), vI i, vU, vU] [] (sg σ1) := by
    refine up_ind (b := ln l) ?_ ?_
    · intro σ1 hF hT1 h8 h9 h10 h11 hv hp
      refine r_iload 6 d_Trip_isInTime_17 rfl ?_
      refine r_iload_n 3 d_Trip_isInTime_19 rfl rfl ?_
      refine r_icmp_ge 268 d_Trip_isInTime_20 rfl (by omega) (by omega) (fun h20 => ?_) (fun h20 => absurd h20 (by omega))
      refine r_iconst d_Trip_isInTime_268 ?_
      refine q_zret d_Trip_isInTime_269 rfl (by omega) ?_
      exact ⟨hF, hT1, Or.inr ⟨fst1_none hl0 hp, rfl, h8, h9, h10, h11, hv⟩⟩
    · intro i i0 i1 ih σ1 hF hT1 h8 h9 h10 h11 hv hp
      have hs := hl.2 i i0 i1
      have hr1 : σ1 c i = gt l i := by rw [hF c i (by omega) (by omega) (by omega) (by omega)]; exact hr9 i i0 i1
      have hC1 : DC σ1 D ns nv := hC.keep (fun c i h => hF c i (by omega) (by omega) (by omega) (by omega))
      have hat := hC1.at hs.1 (by omega)
      have hd := hO.2.1 _ hs.1 hs.2
      have hhr := hr_in hO hl i0 (i := i) (by omega)
      have hmt := mt_in hO hl v0 v1 i0 (i := i) (by omega) hp
      have hcm := cm_in hO hl v0 v1 i0 i1 hp
      have eb : (if cm D v l i < D 2 (gt l i) then D 2 (gt l i) else cm D v l i) = bg D v l i := rfl
      have el : (if bg D v l i - D 3 (gt l i) < 0 then 0 else bg D v l i - D 3 (gt l i)) = lte D v l i := rfl
      have hle : lte D v l i = if bg D v l i - D 3 (gt l i) < 0 then 0 else bg D v l i - D 3 (gt l i) := rfl
      refine r_iload 6 d_Trip_isInTime_17 rfl ?_
      refine r_iload_n 3 d_Trip_isInTime_19 rfl rfl ?_
      refine r_icmp_ge 268 d_Trip_isInTime_20 rfl (by omega) (by omega) (fun h20 => absurd h20 (by omega)) (fun h20 => ?_)
      refine r_aload_n 2 d_Trip_isInTime_23 rfl rfl ?_
      refine r_iload 6 d_Trip_isInTime_24 rfl ?_
      refine r_iald 12 d_Trip_isInTime_26 hk ha (by omega) (by omega) ?_
      rw [hr1]
      refine r_istore 7 d_Trip_isInTime_27 (by decide) rfl ?_
      refine r_aload_n 0 d_Trip_isInTime_29 rfl rfl ?_
      refine r_getR 23 d_Trip_isInTime_30 fk_Trip_32 rfl rfl rfl (by decide) ?_
      refine r_iload 6 d_Trip_isInTime_33 rfl ?_
      refine r_aload_n 0 d_Trip_isInTime_35 rfl rfl ?_
      refine r_getR 3 d_Trip_isInTime_36 fk_Trip_12 rfl rfl rfl (by decide) ?_
      refine r_iload 4 d_Trip_isInTime_39 rfl ?_
      refine r_aload_n 0 d_Trip_isInTime_41 rfl rfl ?_
      refine r_getR 9 d_Trip_isInTime_42 fk_Trip_21 rfl rfl rfl (by decide) ?_
      refine r_getR 11 d_Trip_isInTime_45 fk_Trip_113 rfl rfl rfl (by decide) ?_
      refine r_iload 7 d_Trip_isInTime_48 rfl ?_
      refine r_iald 12 d_Trip_isInTime_50 rfl rfl (by omega) (by omega) ?_
      rw [hat.2.1]
      refine r_iload 5 d_Trip_isInTime_51 rfl ?_
      refine r_cVI 4 d_Trip_isInTime_53 lk_Trip_116 vc_Town_comes (ct_comes hS hC1.2.2.2.2.2 hT1 hB hhr.1 hhr.2 hd.2.1.1 hd.2.1.2 hmt.1 (by omega)) rfl rfl rfl rfl ⟨Nat.le_of_ble_eq_true rfl, Nat.le_of_ble_eq_true rfl⟩ ⟨Nat.zero_le _, Nat.zero_le _⟩ (Nat.le_of_ble_eq_true rfl) (fun r53 s53 q53 => ?_)
      obtain ⟨e53, hT5, hF5⟩ := q53
      have e53 : r53 = cm D v l i := e53
      rw [e53]
      have hC5 : DC s53 D ns nv := hC1.keep (fun c i h => hF5 c i (by omega) (by omega))
      have hat5 := hC5.at hs.1 (by omega)
      refine r_iast 12 d_Trip_isInTime_56 rfl rfl (by omega) (by omega) ?_
      refine r_aload_n 0 d_Trip_isInTime_57 rfl rfl ?_
      refine r_getR 24 d_Trip_isInTime_58 fk_Trip_36 rfl rfl rfl (by decide) ?_
      refine r_iload 6 d_Trip_isInTime_61 rfl ?_
      refine r_aload_n 0 d_Trip_isInTime_63 rfl rfl ?_
      refine r_getR 23 d_Trip_isInTime_64 fk_Trip_32 rfl rfl rfl (by decide) ?_
      refine r_iload 6 d_Trip_isInTime_67 rfl ?_
      refine r_iald 12 d_Trip_isInTime_69 rfl rfl (by omega) (by omega) ?_
      rw [wr_eq]
      refine r_aload_n 0 d_Trip_isInTime_70 rfl rfl ?_
      refine r_getR 9 d_Trip_isInTime_71 fk_Trip_21 rfl rfl rfl (by decide) ?_
      refine r_getR 12 d_Trip_isInTime_74 fk_Trip_120 rfl rfl rfl (by decide) ?_
      refine r_iload 7 d_Trip_isInTime_77 rfl ?_
      refine r_iald 12 d_Trip_isInTime_79 rfl rfl (by omega) (by omega) ?_
      rw [wr_c (by decide), hat5.2.2.1]
      refine r_max d_Trip_isInTime_80 lk_Trip_121 (by omega) (by omega) (Nat.le_of_ble_eq_true rfl) (Nat.le_of_ble_eq_true rfl) ⟨Nat.zero_le _, Nat.zero_le _⟩ ?_
      rw [eb]
      refine r_iast 12 d_Trip_isInTime_83 rfl rfl (by omega) (by omega) ?_
      refine r_aload_n 0 d_Trip_isInTime_84 rfl rfl ?_
      refine r_getR 25 d_Trip_isInTime_85 fk_Trip_39 rfl rfl rfl (by decide) ?_
      refine r_iload 6 d_Trip_isInTime_88 rfl ?_
      refine r_aload_n 0 d_Trip_isInTime_90 rfl rfl ?_
      refine r_getR 24 d_Trip_isInTime_91 fk_Trip_36 rfl rfl rfl (by decide) ?_
      refine r_iload 6 d_Trip_isInTime_94 rfl ?_
      refine r_iald 12 d_Trip_isInTime_96 rfl rfl (by omega) (by omega) ?_
      rw [wr_eq]
      refine r_aload_n 0 d_Trip_isInTime_97 rfl rfl ?_
      refine r_getR 9 d_Trip_isInTime_98 fk_Trip_21 rfl rfl rfl (by decide) ?_
      refine r_getR 14 d_Trip_isInTime_101 fk_Trip_127 rfl rfl rfl (by decide) ?_
      refine r_iload 7 d_Trip_isInTime_104 rfl ?_
      refine r_iald 12 d_Trip_isInTime_106 rfl rfl (by omega) (by omega) ?_
      rw [wr_c (by decide), wr_c (by decide), hat5.2.2.2.2.1]
      refine r_iadd d_Trip_isInTime_107 ?_
      refine r_iast 12 d_Trip_isInTime_108 rfl rfl (by omega) (by omega) ?_
      refine r_aload_n 0 d_Trip_isInTime_109 rfl rfl ?_
      refine r_getR 24 d_Trip_isInTime_110 fk_Trip_36 rfl rfl rfl (by decide) ?_
      refine r_iload 6 d_Trip_isInTime_113 rfl ?_
      refine r_iald 12 d_Trip_isInTime_115 rfl rfl (by omega) (by omega) ?_
      rw [wr_c (by decide), wr_eq]
      refine r_aload_n 0 d_Trip_isInTime_116 rfl rfl ?_
      refine r_getR 9 d_Trip_isInTime_117 fk_Trip_21 rfl rfl rfl (by decide) ?_
      refine r_getR 13 d_Trip_isInTime_120 fk_Trip_130 rfl rfl rfl (by decide) ?_
      refine r_iload 7 d_Trip_isInTime_123 rfl ?_
      refine r_iald 12 d_Trip_isInTime_125 rfl rfl (by omega) (by omega) ?_
      rw [wr_c (by decide), wr_c (by decide), wr_c (by decide), hat5.2.2.2.1]
      refine r_isub d_Trip_isInTime_126 ?_
      refine r_iconst d_Trip_isInTime_127 ?_
      refine r_max d_Trip_isInTime_128 lk_Trip_121 (by omega) (by omega) (Nat.le_of_ble_eq_true rfl) (Nat.le_of_ble_eq_true rfl) ⟨Nat.zero_le _, Nat.zero_le _⟩ ?_
      rw [el]
      refine r_istore 8 d_Trip_isInTime_131 (by decide) rfl ?_
      refine r_aload_n 0 d_Trip_isInTime_133 rfl rfl ?_
      refine r_getR 24 d_Trip_isInTime_134 fk_Trip_36 rfl rfl rfl (by decide) ?_
      refine r_iload 6 d_Trip_isInTime_137 rfl ?_
      refine r_iald 12 d_Trip_isInTime_139 rfl rfl (by omega) (by omega) ?_
      rw [wr_c (by decide), wr_eq]
      refine r_sipush d_Trip_isInTime_140 (by decide) ?_
      refine r_icmp_ge 165 d_Trip_isInTime_143 rfl (by omega) (by omega) (fun h143 => ?_) (fun h143 => ?_)
      · refine r_aload_n 0 d_Trip_isInTime_165 rfl rfl ?_
        refine r_iload 6 d_Trip_isInTime_166 rfl ?_
        refine r_putI 8 d_Trip_isInTime_168 fk_Trip_54 rfl rfl rfl (Or.inl rfl) ?_
        refine r_iconst d_Trip_isInTime_171 ?_
        refine q_zret d_Trip_isInTime_172 rfl (by omega) ?_
        have hb : fst1 (pr3 D v l) (ln l) = i := fst1_of i0 i1 (decide_eq_true (by first | exact Or.inl h143 | exact Or.inr ⟨by split at hle <;> omega, h162⟩)) hp
        refine ⟨fun c i h1 h2 h3 h4 => by rw [wr_ne (by omega), wr_ne (by omega), wr_ne (by omega), wr_ne (by omega), hF5 c i h2 h3]; exact hF c i h1 h2 h3 h4, hT5.keep (fun c i h => by rw [wr_ne (by omega), wr_ne (by omega), wr_ne (by omega), wr_ne (by omega)]), Or.inl ⟨by rw [hb]; exact i1, rfl, by rw [wr_eq, hb]⟩⟩
      · refine r_iload 8 d_Trip_isInTime_146 rfl ?_
        refine r_if_le 173 d_Trip_isInTime_148 rfl (by omega) (fun h148 => ?_) (fun h148 => ?_)
        · refine r_aload_n 0 d_Trip_isInTime_173 rfl rfl ?_
          refine r_dup d_Trip_isInTime_174 rfl ?_
          refine r_getI 10 d_Trip_isInTime_175 fk_Trip_61 rfl rfl rfl ?_
          refine r_aload_n 0 d_Trip_isInTime_178 rfl rfl ?_
          refine r_getR 24 d_Trip_isInTime_179 fk_Trip_36 rfl rfl rfl (by decide) ?_
          refine r_iload 6 d_Trip_isInTime_182 rfl ?_
          refine r_iald 12 d_Trip_isInTime_184 rfl rfl (by omega) (by omega) ?_
          rw [wr_c (by decide), wr_eq]
          refine r_aload_n 0 d_Trip_isInTime_185 rfl rfl ?_
          refine r_getR 23 d_Trip_isInTime_186 fk_Trip_32 rfl rfl rfl (by decide) ?_
          refine r_iload 6 d_Trip_isInTime_189 rfl ?_
          refine r_iald 12 d_Trip_isInTime_191 rfl rfl (by omega) (by omega) ?_
          rw [wr_c (by decide), wr_c (by decide), wr_eq]
          refine r_isub d_Trip_isInTime_192 ?_
          refine r_iadd d_Trip_isInTime_193 ?_
          refine r_putI 10 d_Trip_isInTime_194 fk_Trip_61 rfl rfl rfl (Or.inl rfl) ?_
          refine r_aload_n 0 d_Trip_isInTime_197 rfl rfl ?_
          refine r_dup d_Trip_isInTime_198 rfl ?_
          refine r_getI 11 d_Trip_isInTime_199 fk_Trip_64 rfl rfl rfl ?_
          refine r_iload 8 d_Trip_isInTime_202 rfl ?_
          refine r_iadd d_Trip_isInTime_204 ?_
          refine r_putI 11 d_Trip_isInTime_205 fk_Trip_64 rfl rfl rfl (Or.inl rfl) ?_
          refine r_aload_n 0 d_Trip_isInTime_208 rfl rfl ?_
          refine r_dup d_Trip_isInTime_209 rfl ?_
          refine r_getI 9 d_Trip_isInTime_210 fk_Trip_58 rfl rfl rfl ?_
          refine r_iload 8 d_Trip_isInTime_213 rfl ?_
          refine r_aload_n 0 d_Trip_isInTime_215 rfl rfl ?_
          refine r_getR 9 d_Trip_isInTime_216 fk_Trip_21 rfl rfl rfl (by decide) ?_
          refine r_getR 17 d_Trip_isInTime_219 fk_Trip_133 rfl rfl rfl (by decide) ?_
          refine r_iload 7 d_Trip_isInTime_222 rfl ?_
          refine r_iald 12 d_Trip_isInTime_224 rfl rfl (by omega) (by omega) ?_
          rw [wr_c (by decide), wr_c (by decide), wr_c (by decide), wr_c (by decide), wr_c (by decide), hat5.2.2.2.2.2.2]
          refine r_imul d_Trip_isInTime_225 ?_
          refine r_aload_n 0 d_Trip_isInTime_226 rfl rfl ?_
          refine r_getR 9 d_Trip_isInTime_227 fk_Trip_21 rfl rfl rfl (by decide) ?_
          refine r_getR 14 d_Trip_isInTime_230 fk_Trip_127 rfl rfl rfl (by decide) ?_
          refine r_iload 7 d_Trip_isInTime_233 rfl ?_
          refine r_iald 12 d_Trip_isInTime_235 rfl rfl (by omega) (by omega) ?_
          rw [wr_c (by decide), wr_c (by decide), wr_c (by decide), wr_c (by decide), wr_c (by decide), hat5.2.2.2.2.1]
          refine r_isub d_Trip_isInTime_236 ?_
          refine r_iadd d_Trip_isInTime_237 ?_
          refine r_putI 9 d_Trip_isInTime_238 fk_Trip_58 rfl rfl rfl (Or.inl rfl) ?_
          refine r_aload_n 0 d_Trip_isInTime_241 rfl rfl ?_
          refine r_getR 9 d_Trip_isInTime_242 fk_Trip_21 rfl rfl rfl (by decide) ?_
          refine r_getR 11 d_Trip_isInTime_245 fk_Trip_113 rfl rfl rfl (by decide) ?_
          refine r_iload 7 d_Trip_isInTime_248 rfl ?_
          refine r_iald 12 d_Trip_isInTime_250 rfl rfl (by omega) (by omega) ?_
          rw [wr_c (by decide), wr_c (by decide), wr_c (by decide), wr_c (by decide), wr_c (by decide), wr_c (by decide), hat5.2.1]
          refine r_istore 4 d_Trip_isInTime_251 (by decide) rfl ?_
          refine r_aload_n 0 d_Trip_isInTime_253 rfl rfl ?_
          refine r_getR 25 d_Trip_isInTime_254 fk_Trip_39 rfl rfl rfl (by decide) ?_
          refine r_iload 6 d_Trip_isInTime_257 rfl ?_
          refine r_iald 12 d_Trip_isInTime_259 rfl rfl (by omega) (by omega) ?_
          rw [wr_c (by decide), wr_c (by decide), wr_c (by decide), wr_eq]
          refine r_istore 5 d_Trip_isInTime_260 (by decide) rfl ?_
          refine r_iinc 6 d_Trip_isInTime_262 rfl (by decide) rfl ?_
          refine r_goto 17 d_Trip_isInTime_265 rfl ?_
          rw [hr_s i0, mt_s i0] at ih
          have hng : pr3 D v l i = false := decide_eq_false (by rintro (a | ⟨a, b⟩) <;> split at hle <;> omega)
          refine r_drop 7 (r_drop 8 (ih _ (fun c i h1 h2 h3 h4 => ?_) (hT5.keep (fun c i h => ?_)) ?_ ?_ ?_ ?_ (fun j j0 j1 => ?_) (fun j j0 j1 => ?_)))
          · rw [wr_ne (by omega), wr_ne (by omega), wr_ne (by omega), wr_ne (by omega), wr_ne (by omega), wr_ne (by omega), hF5 c i h2 h3]; exact hF c i h1 h2 h3 h4
          · rw [wr_ne (by omega), wr_ne (by omega), wr_ne (by omega), wr_ne (by omega), wr_ne (by omega), wr_ne (by omega)]
          · rw [wr_ne (by omega), wr_ne (by omega), wr_ne (by omega), wr_ne (by omega), wr_ne (by omega), wr_ne (by omega), hF5 2 8 (by omega) (by omega)]; exact h8
          · rw [wr_eq, wr_ne (by omega), wr_ne (by omega), wr_ne (by omega), wr_ne (by omega), wr_ne (by omega), hF5 2 9 (by omega) (by omega), h9, ex_s i0]; omega
          · rw [wr_ne (by omega), wr_ne (by omega), wr_eq, wr_ne (by omega), wr_ne (by omega), wr_ne (by omega), hF5 2 10 (by omega) (by omega), h10, wt_s i0]; omega
          · rw [wr_ne (by omega), wr_eq, wr_ne (by omega), wr_ne (by omega), wr_ne (by omega), wr_ne (by omega), hF5 2 11 (by omega) (by omega), h11, lt9_s i0]; omega
          · by_cases e : j = i
            · rw [e]
              refine ⟨by rw [wr_ne (by omega), wr_ne (by omega), wr_ne (by omega), wr_ne (by omega), wr_ne (by omega), wr_eq], by rw [wr_ne (by omega), wr_ne (by omega), wr_ne (by omega), wr_ne (by omega), wr_eq], by rw [wr_ne (by omega), wr_ne (by omega), wr_ne (by omega), wr_eq, mt_s i0]⟩
            · have hj := hv j j0 (by omega)
              refine ⟨by rw [wr_ne (by omega), wr_ne (by omega), wr_ne (by omega), wr_ne (by omega), wr_ne (by omega), wr_ne (by omega), hF5 23 j (by omega) (by omega)]; exact hj.1, by rw [wr_ne (by omega), wr_ne (by omega), wr_ne (by omega), wr_ne (by omega), wr_ne (by omega), wr_ne (by omega), hF5 24 j (by omega) (by omega)]; exact hj.2.1, by rw [wr_ne (by omega), wr_ne (by omega), wr_ne (by omega), wr_ne (by omega), wr_ne (by omega), wr_ne (by omega), hF5 25 j (by omega) (by omega)]; exact hj.2.2⟩
          · by_cases e : j = i
            · rw [e]; exact hng
            · exact hp j j0 (by omega)
        · refine r_aload_n 0 d_Trip_isInTime_151 rfl rfl ?_
          refine r_getR 9 d_Trip_isInTime_152 fk_Trip_21 rfl rfl rfl (by decide) ?_
          refine r_getR 10 d_Trip_isInTime_155 fk_Trip_97 rfl rfl rfl (by decide) ?_
          refine r_iload 7 d_Trip_isInTime_158 rfl ?_
          refine r_iald 12 d_Trip_isInTime_160 rfl rfl (by omega) (by omega) ?_
          rw [wr_c (by decide), wr_c (by decide), wr_c (by decide), hat5.1]
          refine r_iconst d_Trip_isInTime_161 ?_
          refine r_icmp_eq 173 d_Trip_isInTime_162 rfl (by omega) (by omega) (fun h162 => ?_) (fun h162 => ?_)
          · refine r_aload_n 0 d_Trip_isInTime_173 rfl rfl ?_
            refine r_dup d_Trip_isInTime_174 rfl ?_
            refine r_getI 10 d_Trip_isInTime_175 fk_Trip_61 rfl rfl rfl ?_
            refine r_aload_n 0 d_Trip_isInTime_178 rfl rfl ?_
            refine r_getR 24 d_Trip_isInTime_179 fk_Trip_36 rfl rfl rfl (by decide) ?_
            refine r_iload 6 d_Trip_isInTime_182 rfl ?_
            refine r_iald 12 d_Trip_isInTime_184 rfl rfl (by omega) (by omega) ?_
            rw [wr_c (by decide), wr_eq]
            refine r_aload_n 0 d_Trip_isInTime_185 rfl rfl ?_
            refine r_getR 23 d_Trip_isInTime_186 fk_Trip_32 rfl rfl rfl (by decide) ?_
            refine r_iload 6 d_Trip_isInTime_189 rfl ?_
            refine r_iald 12 d_Trip_isInTime_191 rfl rfl (by omega) (by omega) ?_
            rw [wr_c (by decide), wr_c (by decide), wr_eq]
            refine r_isub d_Trip_isInTime_192 ?_
            refine r_iadd d_Trip_isInTime_193 ?_
            refine r_putI 10 d_Trip_isInTime_194 fk_Trip_61 rfl rfl rfl (Or.inl rfl) ?_
            refine r_aload_n 0 d_Trip_isInTime_197 rfl rfl ?_
            refine r_dup d_Trip_isInTime_198 rfl ?_
            refine r_getI 11 d_Trip_isInTime_199 fk_Trip_64 rfl rfl rfl ?_
            refine r_iload 8 d_Trip_isInTime_202 rfl ?_
            refine r_iadd d_Trip_isInTime_204 ?_
            refine r_putI 11 d_Trip_isInTime_205 fk_Trip_64 rfl rfl rfl (Or.inl rfl) ?_
            refine r_aload_n 0 d_Trip_isInTime_208 rfl rfl ?_
            refine r_dup d_Trip_isInTime_209 rfl ?_
            refine r_getI 9 d_Trip_isInTime_210 fk_Trip_58 rfl rfl rfl ?_
            refine r_iload 8 d_Trip_isInTime_213 rfl ?_
            refine r_aload_n 0 d_Trip_isInTime_215 rfl rfl ?_
            refine r_getR 9 d_Trip_isInTime_216 fk_Trip_21 rfl rfl rfl (by decide) ?_
            refine r_getR 17 d_Trip_isInTime_219 fk_Trip_133 rfl rfl rfl (by decide) ?_
            refine r_iload 7 d_Trip_isInTime_222 rfl ?_
            refine r_iald 12 d_Trip_isInTime_224 rfl rfl (by omega) (by omega) ?_
            rw [wr_c (by decide), wr_c (by decide), wr_c (by decide), wr_c (by decide), wr_c (by decide), hat5.2.2.2.2.2.2]
            refine r_imul d_Trip_isInTime_225 ?_
            refine r_aload_n 0 d_Trip_isInTime_226 rfl rfl ?_
            refine r_getR 9 d_Trip_isInTime_227 fk_Trip_21 rfl rfl rfl (by decide) ?_
            refine r_getR 14 d_Trip_isInTime_230 fk_Trip_127 rfl rfl rfl (by decide) ?_
            refine r_iload 7 d_Trip_isInTime_233 rfl ?_
            refine r_iald 12 d_Trip_isInTime_235 rfl rfl (by omega) (by omega) ?_
            rw [wr_c (by decide), wr_c (by decide), wr_c (by decide), wr_c (by decide), wr_c (by decide), hat5.2.2.2.2.1]
            refine r_isub d_Trip_isInTime_236 ?_
            refine r_iadd d_Trip_isInTime_237 ?_
            refine r_putI 9 d_Trip_isInTime_238 fk_Trip_58 rfl rfl rfl (Or.inl rfl) ?_
            refine r_aload_n 0 d_Trip_isInTime_241 rfl rfl ?_
            refine r_getR 9 d_Trip_isInTime_242 fk_Trip_21 rfl rfl rfl (by decide) ?_
            refine r_getR 11 d_Trip_isInTime_245 fk_Trip_113 rfl rfl rfl (by decide) ?_
            refine r_iload 7 d_Trip_isInTime_248 rfl ?_
            refine r_iald 12 d_Trip_isInTime_250 rfl rfl (by omega) (by omega) ?_
            rw [wr_c (by decide), wr_c (by decide), wr_c (by decide), wr_c (by decide), wr_c (by decide), wr_c (by decide), hat5.2.1]
            refine r_istore 4 d_Trip_isInTime_251 (by decide) rfl ?_
            refine r_aload_n 0 d_Trip_isInTime_253 rfl rfl ?_
            refine r_getR 25 d_Trip_isInTime_254 fk_Trip_39 rfl rfl rfl (by decide) ?_
            refine r_iload 6 d_Trip_isInTime_257 rfl ?_
            refine r_iald 12 d_Trip_isInTime_259 rfl rfl (by omega) (by omega) ?_
            rw [wr_c (by decide), wr_c (by decide), wr_c (by decide), wr_eq]
            refine r_istore 5 d_Trip_isInTime_260 (by decide) rfl ?_
            refine r_iinc 6 d_Trip_isInTime_262 rfl (by decide) rfl ?_
            refine r_goto 17 d_Trip_isInTime_265 rfl ?_
            rw [hr_s i0, mt_s i0] at ih
            have hng : pr3 D v l i = false := decide_eq_false (by rintro (a | ⟨a, b⟩) <;> split at hle <;> omega)
            refine r_drop 7 (r_drop 8 (ih _ (fun c i h1 h2 h3 h4 => ?_) (hT5.keep (fun c i h => ?_)) ?_ ?_ ?_ ?_ (fun j j0 j1 => ?_) (fun j j0 j1 => ?_)))
            · rw [wr_ne (by omega), wr_ne (by omega), wr_ne (by omega), wr_ne (by omega), wr_ne (by omega), wr_ne (by omega), hF5 c i h2 h3]; exact hF c i h1 h2 h3 h4
            · rw [wr_ne (by omega), wr_ne (by omega), wr_ne (by omega), wr_ne (by omega), wr_ne (by omega), wr_ne (by omega)]
            · rw [wr_ne (by omega), wr_ne (by omega), wr_ne (by omega), wr_ne (by omega), wr_ne (by omega), wr_ne (by omega), hF5 2 8 (by omega) (by omega)]; exact h8
            · rw [wr_eq, wr_ne (by omega), wr_ne (by omega), wr_ne (by omega), wr_ne (by omega), wr_ne (by omega), hF5 2 9 (by omega) (by omega), h9, ex_s i0]; omega
            · rw [wr_ne (by omega), wr_ne (by omega), wr_eq, wr_ne (by omega), wr_ne (by omega), wr_ne (by omega), hF5 2 10 (by omega) (by omega), h10, wt_s i0]; omega
            · rw [wr_ne (by omega), wr_eq, wr_ne (by omega), wr_ne (by omega), wr_ne (by omega), wr_ne (by omega), hF5 2 11 (by omega) (by omega), h11, lt9_s i0]; omega
            · by_cases e : j = i
              · rw [e]
                refine ⟨by rw [wr_ne (by omega), wr_ne (by omega), wr_ne (by omega), wr_ne (by omega), wr_ne (by omega), wr_eq], by rw [wr_ne (by omega), wr_ne (by omega), wr_ne (by omega), wr_ne (by omega), wr_eq], by rw [wr_ne (by omega), wr_ne (by omega), wr_ne (by omega), wr_eq, mt_s i0]⟩
              · have hj := hv j j0 (by omega)
                refine ⟨by rw [wr_ne (by omega), wr_ne (by omega), wr_ne (by omega), wr_ne (by omega), wr_ne (by omega), wr_ne (by omega), hF5 23 j (by omega) (by omega)]; exact hj.1, by rw [wr_ne (by omega), wr_ne (by omega), wr_ne (by omega), wr_ne (by omega), wr_ne (by omega), wr_ne (by omega), hF5 24 j (by omega) (by omega)]; exact hj.2.1, by rw [wr_ne (by omega), wr_ne (by omega), wr_ne (by omega), wr_ne (by omega), wr_ne (by omega), wr_ne (by omega), hF5 25 j (by omega) (by omega)]; exact hj.2.2⟩
            · by_cases e : j = i
              · rw [e]; exact hng
              · exact hp j j0 (by omega)
          · refine r_aload_n 0 d_Trip_isInTime_165 rfl rfl ?_
            refine r_iload 6 d_Trip_isInTime_166 rfl ?_
            refine r_putI 8 d_Trip_isInTime_168 fk_Trip_54 rfl rfl rfl (Or.inl rfl) ?_
            refine r_iconst d_Trip_isInTime_171 ?_
            refine q_zret d_Trip_isInTime_172 rfl (by omega) ?_
            have hb : fst1 (pr3 D v l) (ln l) = i := fst1_of i0 i1 (decide_eq_true (by first | exact Or.inl h143 | exact Or.inr ⟨by split at hle <;> omega, h162⟩)) hp
            refine ⟨fun c i h1 h2 h3 h4 => by rw [wr_ne (by omega), wr_ne (by omega), wr_ne (by omega), wr_ne (by omega), hF5 c i h2 h3]; exact hF c i h1 h2 h3 h4, hT5.keep (fun c i h => by rw [wr_ne (by omega), wr_ne (by omega), wr_ne (by omega), wr_ne (by omega)]), Or.inl ⟨by rw [hb]; exact i1, rfl, by rw [wr_eq, hb]⟩⟩
  refine ci_of [vR 2, vI v, vR c, vI (ln l), vU, vU, vU, vU, vU] fy_Trip_isInTime.1 rfl (Nat.le_of_ble_eq_true rfl) ?_
  refine r_iconst d_Trip_isInTime_0 ?_
  refine r_istore 4 d_Trip_isInTime_1 (by decide) rfl ?_
  refine r_aload_n 0 d_Trip_isInTime_3 rfl rfl ?_
  refine r_getR 18 d_Trip_isInTime_4 fk_Trip_28 rfl rfl rfl (by decide) ?_
  refine r_getR 20 d_Trip_isInTime_7 fk_Trip_84 rfl rfl rfl (by decide) ?_
  refine r_iload_n 1 d_Trip_isInTime_10 rfl rfl ?_
  refine r_iald 3 d_Trip_isInTime_11 rfl rfl (by omega) (by omega) ?_
  rw [hvv.2.1]
  refine r_istore 5 d_Trip_isInTime_12 (by decide) rfl ?_
  refine r_iconst d_Trip_isInTime_14 ?_
  refine r_istore 6 d_Trip_isInTime_15 (by decide) rfl ?_
  exact key 0 (by omega) hl0 σ (fun _ _ _ _ _ _ => rfl) hT rfl (Int.add_zero _).symm (Int.add_zero _).symm (Int.add_zero _).symm (fun j j0 j1 => by omega) (fun j j0 j1 => by omega)
theorem ct_isBack {σ D : sto} {ns nv c v : Int} {l : List Int} (hC : DC σ D ns nv) (hO : DOK D ns nv) (hl : RV ns l) (hk : KD c = 9) (ha : AL c = 12) (hc : 27 ≤ c) (hr9 : ∀ i, 0 ≤ i → i < ln l → σ c i = gt l i) (v0 : 0 ≤ v) (v1 : v < nv) {B : Int} (hT : TC σ D B) (hB : B ≤ 4000) (hne : 0 < ln l) (hlv : σ 25 (ln l - 1) = mt D v l (ln l)) (hp : ∀ j, 0 ≤ j → j < ln l → pr3 D v l j = false) : CI M_Trip_isBack 3 [vR 2, vI v, vR c, vI (ln l)] σ (fun r σ' => (∀ c i, (c ≠ 2 ∨ i ≠ 7 ∧ i ≠ 8) → c ≠ 7 → c ≠ 8 → σ' c i = σ c i) ∧ TC σ' D B ∧ σ' 2 7 = bk D v l ∧ ((D 10 v < bk D v l ∧ r = 0 ∧ σ' 2 8 = ln l) ∨ (bk D v l ≤ D 10 v ∧ r = 1 ∧ σ' 2 8 = σ 2 8))) := by
  have hn := hO.1
  have hl12 := hl.1
  have hvd := hO.2.2.2.1 v v0 v1
  have hS := hO.2.2.2.2
  have hs := hl.2 (ln l - 1) (by omega) (by omega)
  have hr1 := hr9 (ln l - 1) (by omega) (by omega)
  have hat := hC.at hs.1 (by omega)
  have hd := hO.2.1 _ hs.1 hs.2
  have hmt := mt_in hO hl v0 v1 (i := ln l) (by omega) (by omega) hp
  have hhr : hr D l (ln l) = D 1 (gt l (ln l - 1)) := if_neg (by omega)
  have hbk := way_in (D := D) (a := hr D l (ln l)) (b := 0) hS hmt.1 (by omega) (by omega) (by omega)
  have hbk : mt D v l (ln l) ≤ bk D v l ∧ bk D v l ≤ 1000000 := hbk
  refine ci_of [vR 2, vI v, vR c, vI (ln l), vU] fy_Trip_isBack.1 rfl (Nat.le_of_ble_eq_true rfl) ?_
  refine r_iload_n 3 d_Trip_isBack_0 rfl rfl ?_
  refine r_iconst d_Trip_isBack_1 ?_
  refine r_isub d_Trip_isBack_2 ?_
  refine r_istore 4 d_Trip_isBack_3 (by decide) rfl ?_
  refine r_aload_n 0 d_Trip_isBack_5 rfl rfl ?_
  refine r_aload_n 0 d_Trip_isBack_6 rfl rfl ?_
  refine r_getR 3 d_Trip_isBack_7 fk_Trip_12 rfl rfl rfl (by decide) ?_
  refine r_aload_n 0 d_Trip_isBack_10 rfl rfl ?_
  refine r_getR 9 d_Trip_isBack_11 fk_Trip_21 rfl rfl rfl (by decide) ?_
  refine r_getR 11 d_Trip_isBack_14 fk_Trip_113 rfl rfl rfl (by decide) ?_
  refine r_aload_n 2 d_Trip_isBack_17 rfl rfl ?_
  refine r_iload 4 d_Trip_isBack_18 rfl ?_
  refine r_iald 12 d_Trip_isBack_20 hk ha (by omega) (by omega) ?_
  rw [hr1]
  refine r_iald 12 d_Trip_isBack_21 rfl rfl (by omega) (by omega) ?_
  rw [hat.2.1]
  refine r_iconst d_Trip_isBack_22 ?_
  refine r_aload_n 0 d_Trip_isBack_23 rfl rfl ?_
  refine r_getR 25 d_Trip_isBack_24 fk_Trip_39 rfl rfl rfl (by decide) ?_
  refine r_iload 4 d_Trip_isBack_27 rfl ?_
  refine r_iald 12 d_Trip_isBack_29 rfl rfl (by omega) (by omega) ?_
  rw [hlv]
  refine r_cVI 4 d_Trip_isBack_30 lk_Trip_116 vc_Town_comes (ct_comes hS hC.2.2.2.2.2 hT hB hd.2.1.1 hd.2.1.2 (by omega) (by omega) hmt.1 (by omega)) rfl rfl rfl rfl ⟨Nat.le_of_ble_eq_true rfl, Nat.le_of_ble_eq_true rfl⟩ ⟨Nat.zero_le _, Nat.zero_le _⟩ (Nat.le_of_ble_eq_true rfl) (fun r30 s30 q30 => ?_)
  obtain ⟨e30, hT5, hF5⟩ := q30
  have e30 : r30 = bk D v l := by rw [e30, ← hhr]; rfl
  rw [e30]
  have hC5 : DC s30 D ns nv := hC.keep (fun c i h => hF5 c i (by omega) (by omega))
  have hva := hC5.van v0 (by omega)
  refine r_putI 7 d_Trip_isBack_33 fk_Trip_81 rfl rfl rfl (Or.inl rfl) ?_
  refine r_aload_n 0 d_Trip_isBack_36 rfl rfl ?_
  refine r_getI 7 d_Trip_isBack_37 fk_Trip_81 rfl rfl rfl ?_
  rw [wr_eq]
  refine r_aload_n 0 d_Trip_isBack_40 rfl rfl ?_
  refine r_getR 18 d_Trip_isBack_41 fk_Trip_28 rfl rfl rfl (by decide) ?_
  refine r_getR 21 d_Trip_isBack_44 fk_Trip_136 rfl rfl rfl (by decide) ?_
  refine r_iload_n 1 d_Trip_isBack_47 rfl rfl ?_
  refine r_iald 3 d_Trip_isBack_48 rfl rfl (by omega) (by omega) ?_
  rw [wr_ne (by omega), hva.2.2.1]
  refine r_icmp_gt 54 d_Trip_isBack_49 rfl (by omega) (by omega) (fun h49 => ?_) (fun h49 => ?_)
  · refine r_aload_n 0 d_Trip_isBack_54 rfl rfl ?_
    refine r_iload_n 3 d_Trip_isBack_55 rfl rfl ?_
    refine r_putI 8 d_Trip_isBack_56 fk_Trip_54 rfl rfl rfl (Or.inl rfl) ?_
    refine r_iconst d_Trip_isBack_59 ?_
    refine q_zret d_Trip_isBack_60 rfl (by omega) ?_
    first
      | exact ⟨fun c i h1 h2 h3 => by rw [wr_ne (by omega), wr_ne (by omega)]; exact hF5 c i h2 h3, hT5.keep (fun c i h => by rw [wr_ne (by omega), wr_ne (by omega)]), by rw [wr_ne (by omega), wr_eq], Or.inl ⟨h49, rfl, wr_eq⟩⟩
      | exact ⟨fun c i h1 h2 h3 => by rw [wr_ne (by omega)]; exact hF5 c i h2 h3, hT5.keep (fun c i h => by rw [wr_ne (by omega)]), wr_eq, Or.inr ⟨h49, rfl, by rw [wr_ne (by omega)]; exact hF5 2 8 (by omega) (by omega)⟩⟩
  · refine r_iconst d_Trip_isBack_52 ?_
    refine q_zret d_Trip_isBack_53 rfl (by omega) ?_
    first
      | exact ⟨fun c i h1 h2 h3 => by rw [wr_ne (by omega), wr_ne (by omega)]; exact hF5 c i h2 h3, hT5.keep (fun c i h => by rw [wr_ne (by omega), wr_ne (by omega)]), by rw [wr_ne (by omega), wr_eq], Or.inl ⟨h49, rfl, wr_eq⟩⟩
      | exact ⟨fun c i h1 h2 h3 => by rw [wr_ne (by omega)]; exact hF5 c i h2 h3, hT5.keep (fun c i h => by rw [wr_ne (by omega)]), wr_eq, Or.inr ⟨h49, rfl, by rw [wr_ne (by omega)]; exact hF5 2 8 (by omega) (by omega)⟩⟩
