-- TRIP: judge, total, mustsIn (walks written by wip/whole/gen_judg.py)
/-- what judging may change -/
def JF (σ σ' : sto) : Prop := ∀ c i : Int, c ≠ 2 → c ≠ 7 → c ≠ 8 → (c < 23 ∨ 26 < c) → σ' c i = σ c i
theorem JF.rf {σ : sto} : JF σ σ := fun _ _ _ _ _ _ => rfl
theorem JF.tr {σ σ' σ'' : sto} (h : JF σ σ') (g : JF σ' σ'') : JF σ σ'' := fun c i h1 h2 h3 h4 => (g c i h1 h2 h3 h4).trans (h c i h1 h2 h3 h4)
theorem JF.dc {σ σ' D : sto} {ns nv : Int} (h : JF σ σ') (hC : DC σ D ns nv) : DC σ' D ns nv := hC.keep (fun c i q => h c i (by omega) (by omega) (by omega) (by omega))
theorem JF.pa {σ σ' : sto} {p : Int} {P : pln} (h : JF σ σ') (hp : isPl p) (hP : PA σ p P) : PA σ' p P := by
  have := pl_in hp
  exact hP.same (fun c i q1 q2 => h c i (by omega) (by omega) (by omega) (by omega))
/-- the numbers of a round that fits -/
def JN (D : sto) (v : Int) (l : List Int) (σ : sto) : Prop := σ 2 9 = cst D v l ∧ σ 2 10 = wt D v l (ln l) ∧ σ 2 11 = lt9 D v l (ln l) ∧ (0 < ln l → σ 2 7 = bk D v l ∧ ∀ i, 0 ≤ i → i < ln l → σ 23 i = cm D v l i ∧ σ 24 i = bg D v l i ∧ σ 25 i = mt D v l (i + 1) ∧ σ 26 i = lda D l (i + 1))
/-- all rows of a plan are of stops -/
def RVP (ns : Int) (P : pln) : Prop := ∀ v, 0 ≤ v → v < 3 → RV ns (P v)
theorem why_1 {D : sto} {v : Int} {l : List Int} (a : ln l ≠ 0) (b : fst1 (pr1 D l) (ln l) < ln l) : whyOf D v l = 1 ∧ whrOf D v l = fst1 (pr1 D l) (ln l) := ⟨by unfold whyOf; rw [if_neg a, if_pos b], by unfold whrOf; rw [if_neg a, if_pos b]⟩
theorem why_2 {D : sto} {v : Int} {l : List Int} (a : ln l ≠ 0) (b : fst1 (pr1 D l) (ln l) = ln l) (c : D 8 v < ld0 D l) : whyOf D v l = 2 ∧ whrOf D v l = -1 := ⟨by unfold whyOf; rw [if_neg a, if_neg (by omega), if_pos c], by unfold whrOf; rw [if_neg a, if_neg (by omega), if_pos c]⟩
theorem why_3 {D : sto} {v : Int} {l : List Int} (a : ln l ≠ 0) (b : fst1 (pr1 D l) (ln l) = ln l) (c : ld0 D l ≤ D 8 v) (d : fst1 (pr2 D v l) (ln l) < ln l) : whyOf D v l = 2 ∧ whrOf D v l = fst1 (pr2 D v l) (ln l) := ⟨by unfold whyOf; rw [if_neg a, if_neg (by omega), if_neg (by omega), if_pos d], by unfold whrOf; rw [if_neg a, if_neg (by omega), if_neg (by omega), if_pos d]⟩
theorem why_4 {D : sto} {v : Int} {l : List Int} (a : ln l ≠ 0) (b : fst1 (pr1 D l) (ln l) = ln l) (c : ld0 D l ≤ D 8 v) (d : fst1 (pr2 D v l) (ln l) = ln l) (e : fst1 (pr3 D v l) (ln l) < ln l) : whyOf D v l = 3 ∧ whrOf D v l = fst1 (pr3 D v l) (ln l) := ⟨by unfold whyOf; rw [if_neg a, if_neg (by omega), if_neg (by omega), if_neg (by omega), if_pos e], by unfold whrOf; rw [if_neg a, if_neg (by omega), if_neg (by omega), if_neg (by omega), if_pos e]⟩
theorem why_5 {D : sto} {v : Int} {l : List Int} (a : ln l ≠ 0) (b : fst1 (pr1 D l) (ln l) = ln l) (c : ld0 D l ≤ D 8 v) (d : fst1 (pr2 D v l) (ln l) = ln l) (e : fst1 (pr3 D v l) (ln l) = ln l) : whyOf D v l = (if D 10 v < bk D v l then 4 else 0) ∧ whrOf D v l = (if D 10 v < bk D v l then ln l else -1) := ⟨by unfold whyOf; rw [if_neg a, if_neg (by omega), if_neg (by omega), if_neg (by omega), if_neg (by omega)], by unfold whrOf; rw [if_neg a, if_neg (by omega), if_neg (by omega), if_neg (by omega), if_neg (by omega)]⟩
set_option maxRecDepth 4000 in
theorem ct_judge {σ D : sto} {ns nv p v B : Int} {P : pln} (hC : DC σ D ns nv) (hO : DOK D ns nv) (hT : TC σ D B) (hB : B ≤ 4000) (hp : isPl p) (hP : PA σ p P) (v0 : 0 ≤ v) (v1 : v < nv) (hl : RV ns (P v)) : CI M_Trip_judge 4 [vR 2, vR p, vI v] σ (fun r σ' => r = whyOf D v (P v) ∧ σ' 2 8 = whrOf D v (P v) ∧ TC σ' D B ∧ JF σ σ' ∧ (r = 0 → JN D v (P v) σ')) := by
  have hn := hO.1
  have hpi := pl_in hp
  have hl12 := hl.1
  have hl0 := ln0 (P v)
  have hz := hP.len v0 (by omega)
  have hvv := hC.van v0 (by omega)
  have hf1 := fst1_le (p := pr1 D (P v)) hl0
  have hf2 := fst1_le (p := pr2 D v (P v)) hl0
  have hf3 := fst1_le (p := pr3 D v (P v)) hl0
  have hel : ∀ i, 0 ≤ i → i < ln (P v) → σ (p + 2 + v) i = gt (P v) i := fun i i0 i1 => (hP.el v0 (by omega) i0 i1).1
  obtain ⟨σ1, hσ1⟩ : ∃ σ1, σ1 = wr (wr (wr (wr σ 2 8 (-1)) 2 9 0) 2 10 0) 2 11 0 := ⟨_, rfl⟩
  have g8 : σ1 2 8 = -1 := by rw [hσ1, wr_ne (by omega), wr_ne (by omega), wr_ne (by omega), wr_eq]
  have g9 : σ1 2 9 = 0 := by rw [hσ1, wr_ne (by omega), wr_ne (by omega), wr_eq]
  have g10 : σ1 2 10 = 0 := by rw [hσ1, wr_ne (by omega), wr_eq]
  have g11 : σ1 2 11 = 0 := by rw [hσ1, wr_eq]
  have gF : ∀ c i, c ≠ 2 → σ1 c i = σ c i := fun c i h => by rw [hσ1, wr_c h, wr_c h, wr_c h, wr_c h]
  have gJ : JF σ σ1 := fun c i h _ _ _ => gF c i h
  have hC1 := gJ.dc hC
  have hT1 : TC σ1 D B := ⟨by rw [gF 3 5 (by omega)]; exact hT.1, fun a b h a0 a1 b0 b1 h0 h1 hne => by rw [gF 5 _ (by omega)]; exact hT.2.1 a b h a0 a1 b0 b1 h0 h1 hne, fun s s0 s1 => by rw [gF 8 s (by omega), gF 3 5 (by omega)]; exact hT.2.2.1 s s0 s1, fun a m q a0 a1 m0 m1 p0 p1 hx => by
    rw [gF 8 _ (by omega), gF 3 5 (by omega)] at hx
    rw [gF 7 _ (by omega)]
    exact hT.2.2.2 a m q a0 a1 m0 m1 p0 p1 hx⟩
  have hel1 : ∀ i, 0 ≤ i → i < ln (P v) → σ1 (p + 2 + v) i = gt (P v) i := fun i i0 i1 => by rw [gF _ i (by omega)]; exact hel i i0 i1
  have u1 := why_1 (D := D) (v := v) (l := P v)
  have u2 := why_2 (D := D) (v := v) (l := P v)
  have u3 := why_3 (D := D) (v := v) (l := P v)
  have u4 := why_4 (D := D) (v := v) (l := P v)
  have u5 := why_5 (D := D) (v := v) (l := P v)
  refine ci_of [vR 2, vR p, vI v, vU, vU] fy_Trip_judge.1 rfl (Nat.le_of_ble_eq_true rfl) ?_
  refine r_aload_n 1 d_Trip_judge_0 rfl rfl ?_
  refine r_getR (p + 1) d_Trip_judge_1 fk_Trip_45 (kd_pl hp) rfl (lay_p0 hp) (by have := pl_in hp; omega) ?_
  refine r_iload_n 2 d_Trip_judge_4 rfl rfl ?_
  refine r_aald 3 _ d_Trip_judge_5 (Or.inr (kd_pr hp)) (al_pr hp) (by omega) (by omega) (lay_pr hp (by omega) (by omega)) (by omega) ?_
  refine r_astore_n 3 d_Trip_judge_6 rfl (by decide) rfl ?_
  refine r_aload_n 1 d_Trip_judge_7 rfl rfl ?_
  refine r_getR (p + 5) d_Trip_judge_8 fk_Trip_51 (kd_pl hp) rfl (lay_p1 hp) (by have := pl_in hp; omega) ?_
  refine r_iload_n 2 d_Trip_judge_11 rfl rfl ?_
  refine r_iald 3 d_Trip_judge_12 (kd_ps hp) (al_ps hp) (by omega) (by omega) ?_
  rw [hz.1]
  refine r_istore 4 d_Trip_judge_13 (by decide) rfl ?_
  refine r_aload_n 0 d_Trip_judge_15 rfl rfl ?_
  refine r_iconst d_Trip_judge_16 ?_
  refine r_putI 8 d_Trip_judge_17 fk_Trip_54 rfl rfl rfl (Or.inl rfl) ?_
  refine r_aload_n 0 d_Trip_judge_20 rfl rfl ?_
  refine r_iconst d_Trip_judge_21 ?_
  refine r_putI 9 d_Trip_judge_22 fk_Trip_58 rfl rfl rfl (Or.inl rfl) ?_
  refine r_aload_n 0 d_Trip_judge_25 rfl rfl ?_
  refine r_iconst d_Trip_judge_26 ?_
  refine r_putI 10 d_Trip_judge_27 fk_Trip_61 rfl rfl rfl (Or.inl rfl) ?_
  refine r_aload_n 0 d_Trip_judge_30 rfl rfl ?_
  refine r_iconst d_Trip_judge_31 ?_
  refine r_putI 11 d_Trip_judge_32 fk_Trip_64 rfl rfl rfl (Or.inl rfl) ?_
  rw [← hσ1]
  refine r_iload 4 d_Trip_judge_35 rfl ?_
  refine r_if_ne 42 d_Trip_judge_37 rfl (by omega) (fun h37 => ?_) (fun h37 => ?_)
  · refine r_aload_n 0 d_Trip_judge_42 rfl rfl ?_
    refine r_aload_n 3 d_Trip_judge_43 rfl rfl ?_
    refine r_iload 4 d_Trip_judge_44 rfl ?_
    refine r_cVI 5 d_Trip_judge_46 lk_Trip_67 vc_Trip_isPaired (ct_isPaired hC1 hO hl (kd_pw hp v0 (by omega)) (al_pw hp v0 (by omega)) (by omega) hel1) rfl rfl rfl rfl ⟨Nat.le_of_ble_eq_true rfl, Nat.le_of_ble_eq_true rfl⟩ ⟨Nat.zero_le _, Nat.zero_le _⟩ (Nat.le_of_ble_eq_true rfl) (fun r46 s46 q46 => ?_)
    rcases q46 with ⟨a1, rfl, e1⟩ | ⟨a1, rfl, e1⟩
    · rw [e1]
      refine r_if_ne 54 d_Trip_judge_49 rfl (by omega) (fun h49 => ?_) (fun h49 => absurd h49 (by omega))
      refine r_aload_n 0 d_Trip_judge_54 rfl rfl ?_
      refine r_iload_n 2 d_Trip_judge_55 rfl rfl ?_
      refine r_aload_n 3 d_Trip_judge_56 rfl rfl ?_
      refine r_iload 4 d_Trip_judge_57 rfl ?_
      refine r_cVI 5 d_Trip_judge_59 lk_Trip_71 vc_Trip_isCarried (ct_isCarried hC1 hO hl (kd_pw hp v0 (by omega)) (al_pw hp v0 (by omega)) (by omega) hel1 v0 v1) rfl rfl rfl rfl ⟨Nat.le_of_ble_eq_true rfl, Nat.le_of_ble_eq_true rfl⟩ ⟨Nat.zero_le _, Nat.zero_le _⟩ (Nat.le_of_ble_eq_true rfl) (fun r59 s59 q59 => ?_)
      obtain ⟨c1, c0⟩ := q59
      have J2 : JF σ1 s59 := fun c i h1 h2 h3 h4 => c1 c i (by omega) (Or.inl h1)
      have hT2 : TC s59 D B := hT1.keep (fun c i h => c1 c i (by omega) (by omega))
      rcases c0 with ⟨c2, rfl, c4⟩ | ⟨c2, c3, rfl, c4⟩ | ⟨c2, c3, rfl, c4, c5⟩
      · refine r_if_ne 67 d_Trip_judge_62 rfl (by omega) (fun h62 => absurd h62 (by omega)) (fun h62 => ?_)
        refine r_iconst d_Trip_judge_65 ?_
        refine q_iret d_Trip_judge_66 rfl ?_
        have w2 := u2 h37 a1 c2
        exact ⟨w2.1.symm, (c4.trans g8).trans w2.2.symm, hT2, gJ.tr J2, fun h => by omega⟩
      · refine r_if_ne 67 d_Trip_judge_62 rfl (by omega) (fun h62 => absurd h62 (by omega)) (fun h62 => ?_)
        refine r_iconst d_Trip_judge_65 ?_
        refine q_iret d_Trip_judge_66 rfl ?_
        have w3 := u3 h37 a1 c2 c3
        exact ⟨w3.1.symm, c4.trans w3.2.symm, hT2, gJ.tr J2, fun h => by omega⟩
      · have hC2 := J2.dc hC1
        have hel2 : ∀ i, 0 ≤ i → i < ln (P v) → s59 (p + 2 + v) i = gt (P v) i := fun i i0 i1 => by rw [c1 _ i (by omega) (by omega)]; exact hel1 i i0 i1
        refine r_if_ne 67 d_Trip_judge_62 rfl (by omega) (fun h62 => ?_) (fun h62 => absurd h62 (by omega))
        refine r_aload_n 0 d_Trip_judge_67 rfl rfl ?_
        refine r_iload_n 2 d_Trip_judge_68 rfl rfl ?_
        refine r_aload_n 3 d_Trip_judge_69 rfl rfl ?_
        refine r_iload 4 d_Trip_judge_70 rfl ?_
        refine r_cVI 5 d_Trip_judge_72 lk_Trip_75 vc_Trip_isInTime (ct_isInTime hC2 hO hl (kd_pw hp v0 (by omega)) (al_pw hp v0 (by omega)) (by omega) hel2 v0 v1 hT2 hB) rfl rfl rfl rfl ⟨Nat.le_of_ble_eq_true rfl, Nat.le_of_ble_eq_true rfl⟩ ⟨Nat.zero_le _, Nat.zero_le _⟩ (Nat.le_of_ble_eq_true rfl) (fun r72 s72 q72 => ?_)
        obtain ⟨d1, hT3, d3⟩ := q72
        have J3 : JF s59 s72 := fun c i h1 h2 h3 h4 => d1 c i h1 h2 h3 (by omega)
        rcases d3 with ⟨t3, rfl, t4⟩ | ⟨t3, rfl, t4, t5, t6, t7, t9⟩
        · refine r_if_ne 80 d_Trip_judge_75 rfl (by omega) (fun h75 => absurd h75 (by omega)) (fun h75 => ?_)
          refine r_iconst d_Trip_judge_78 ?_
          refine q_iret d_Trip_judge_79 rfl ?_
          have w4 := u4 h37 a1 c2 c3 t3
          exact ⟨w4.1.symm, t4.trans w4.2.symm, hT3, (gJ.tr J2).tr J3, fun h => by omega⟩
        · have hC3 := J3.dc hC2
          have hel3 : ∀ i, 0 ≤ i → i < ln (P v) → s72 (p + 2 + v) i = gt (P v) i := fun i i0 i1 => by rw [d1 _ i (by omega) (by omega) (by omega) (by omega)]; exact hel2 i i0 i1
          refine r_if_ne 80 d_Trip_judge_75 rfl (by omega) (fun h75 => ?_) (fun h75 => absurd h75 (by omega))
          refine r_aload_n 0 d_Trip_judge_80 rfl rfl ?_
          refine r_iload_n 2 d_Trip_judge_81 rfl rfl ?_
          refine r_aload_n 3 d_Trip_judge_82 rfl rfl ?_
          refine r_iload 4 d_Trip_judge_83 rfl ?_
          refine r_cVI 5 d_Trip_judge_85 lk_Trip_78 vc_Trip_isBack (ct_isBack hC3 hO hl (kd_pw hp v0 (by omega)) (al_pw hp v0 (by omega)) (by omega) hel3 v0 v1 hT3 hB (by omega) (by have := (t9 (ln (P v) - 1) (by omega) (by omega)).2.2; rwa [show ln (P v) - 1 + 1 = ln (P v) by omega] at this) (fun j j0 j1 => fst1_lt j0 (by rw [t3]; exact j1))) rfl rfl rfl rfl ⟨Nat.le_of_ble_eq_true rfl, Nat.le_of_ble_eq_true rfl⟩ ⟨Nat.zero_le _, Nat.zero_le _⟩ (Nat.le_of_ble_eq_true rfl) (fun r85 s85 q85 => ?_)
          obtain ⟨b1, hT5, b3, b4⟩ := q85
          have J5 : JF s72 s85 := fun c i h1 h2 h3 h4 => b1 c i (Or.inl h1) h2 h3
          have hJ : JF σ s85 := ((gJ.tr J2).tr J3).tr J5
          have hva := (hJ.dc hC).van v0 (by omega)
          have i9 : s85 2 9 = ex D v (P v) (ln (P v)) := by rw [b1 2 9 (by omega) (by omega) (by omega), t5, c1 2 9 (by omega) (by omega), g9]; omega
          have i10 : s85 2 10 = wt D v (P v) (ln (P v)) := by rw [b1 2 10 (by omega) (by omega) (by omega), t6, c1 2 10 (by omega) (by omega), g10]; omega
          have i11 : s85 2 11 = lt9 D v (P v) (ln (P v)) := by rw [b1 2 11 (by omega) (by omega) (by omega), t7, c1 2 11 (by omega) (by omega), g11]; omega
          have w5 := u5 h37 a1 c2 c3 t3
          rcases b4 with ⟨b4, rfl, b5⟩ | ⟨b4, rfl, b5⟩
          · refine r_if_ne 93 d_Trip_judge_88 rfl (by omega) (fun h88 => absurd h88 (by omega)) (fun h88 => ?_)
            refine r_iconst d_Trip_judge_91 ?_
            refine q_iret d_Trip_judge_92 rfl ?_
            rw [if_pos b4, if_pos b4] at w5
            exact ⟨w5.1.symm, b5.trans w5.2.symm, hT5, hJ, fun h => by omega⟩
          · refine r_if_ne 93 d_Trip_judge_88 rfl (by omega) (fun h88 => ?_) (fun h88 => absurd h88 (by omega))
            refine r_aload_n 0 d_Trip_judge_93 rfl rfl ?_
            refine r_dup d_Trip_judge_94 rfl ?_
            refine r_getI 9 d_Trip_judge_95 fk_Trip_58 rfl rfl rfl ?_
            rw [i9]
            refine r_aload_n 0 d_Trip_judge_98 rfl rfl ?_
            refine r_getI 7 d_Trip_judge_99 fk_Trip_81 rfl rfl rfl ?_
            rw [b3]
            refine r_aload_n 0 d_Trip_judge_102 rfl rfl ?_
            refine r_getR 18 d_Trip_judge_103 fk_Trip_28 rfl rfl rfl (by decide) ?_
            refine r_getR 20 d_Trip_judge_106 fk_Trip_84 rfl rfl rfl (by decide) ?_
            refine r_iload_n 2 d_Trip_judge_109 rfl rfl ?_
            refine r_iald 3 d_Trip_judge_110 rfl rfl (by omega) (by omega) ?_
            rw [hva.2.1]
            refine r_isub d_Trip_judge_111 ?_
            refine r_aload_n 0 d_Trip_judge_112 rfl rfl ?_
            refine r_getR 18 d_Trip_judge_113 fk_Trip_28 rfl rfl rfl (by decide) ?_
            refine r_getR 22 d_Trip_judge_116 fk_Trip_87 rfl rfl rfl (by decide) ?_
            refine r_iload_n 2 d_Trip_judge_119 rfl rfl ?_
            refine r_iald 3 d_Trip_judge_120 rfl rfl (by omega) (by omega) ?_
            rw [hva.2.2.2]
            refine r_iadd d_Trip_judge_121 ?_
            refine r_iadd d_Trip_judge_122 ?_
            refine r_putI 9 d_Trip_judge_123 fk_Trip_58 rfl rfl rfl (Or.inl rfl) ?_
            refine r_iconst d_Trip_judge_126 ?_
            refine q_iret d_Trip_judge_127 rfl ?_
            rw [if_neg (by omega), if_neg (by omega)] at w5
            refine ⟨w5.1.symm, ?_, hT5.keep (fun c i h => by rw [wr_ne (by omega)]), hJ.tr (fun c i h _ _ _ => wr_c h), fun _ => ⟨?_, ?_, ?_, fun _ => ⟨?_, fun i i0 i1 => ?_⟩⟩⟩
            · rw [wr_ne (by omega), b5, t4, c4, g8]; exact w5.2.symm
            · rw [wr_eq]; unfold cst; rw [if_neg h37]
            · rw [wr_ne (by omega)]; exact i10
            · rw [wr_ne (by omega)]; exact i11
            · rw [wr_ne (by omega)]; exact b3
            · have h := t9 i i0 i1
              refine ⟨by rw [wr_c (by decide), b1 23 i (by omega) (by omega) (by omega)]; exact h.1, by rw [wr_c (by decide), b1 24 i (by omega) (by omega) (by omega)]; exact h.2.1, by rw [wr_c (by decide), b1 25 i (by omega) (by omega) (by omega)]; exact h.2.2, by rw [wr_c (by decide), b1 26 i (by omega) (by omega) (by omega), d1 26 i (by omega) (by omega) (by omega) (by omega)]; exact c5 i i0 i1⟩
    · rw [e1]
      refine r_if_ne 54 d_Trip_judge_49 rfl (by omega) (fun h49 => absurd h49 (by omega)) (fun h49 => ?_)
      refine r_iconst d_Trip_judge_52 ?_
      refine q_iret d_Trip_judge_53 rfl ?_
      have w1 := u1 h37 a1
      exact ⟨w1.1.symm, by rw [wr_eq]; exact w1.2.symm, hT1.keep (fun c i h => by rw [wr_ne (by omega)]), gJ.tr (fun c i h _ _ _ => wr_c h), fun h => by omega⟩
  · refine r_iconst d_Trip_judge_40 ?_
    refine q_iret d_Trip_judge_41 rfl ?_
    refine ⟨by unfold whyOf; rw [if_pos h37], by unfold whrOf; rw [if_pos h37]; exact g8, hT1, gJ, fun _ => ⟨by unfold cst; rw [if_pos h37]; exact g9, ?_, ?_, fun q => by omega⟩⟩
    · rw [h37, g10]; rfl
    · rw [h37, g11]; rfl
