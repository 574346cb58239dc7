-- THE REFERENCE: fits, allFit, costs (walks written by wip/whole/gen_fit.py)
theorem fit_end {σ' D : sto} {v y x y1 x1 y2 x2 y3 x3 : Int} {l : List Int} {V : Prop} (a : ln l ≠ 0) (f : FI (pr1 D l) 1 0 (-1) (ln l) y x)
    (h1 : y ≠ 0 ∧ y1 = y ∧ x1 = x ∨ y = 0 ∧ D 8 v < ld0 D l ∧ y1 = 2 ∧ x1 = -1 ∨ y = 0 ∧ ld0 D l ≤ D 8 v ∧ y1 = 0 ∧ x1 = x)
    (f2 : FI (pr2 D v l) 2 y1 x1 (ln l) y2 x2) (f3 : FI (pr3 D v l) 3 y2 x2 (ln l) y3 x3)
    (h3 : y3 ≠ 0 ∧ WY σ' y3 x3 ∨ y3 = 0 ∧ D 10 v < bk D v l ∧ WY σ' 4 (ln l) ∨ y3 = 0 ∧ bk D v l ≤ D 10 v ∧ WY σ' 0 x3 ∧ V) : WY σ' (whyOf D v l) (whrOf D v l) ∧ (whyOf D v l = 0 → V) := by
  have l0 := ln0 l
  rcases f.end l0 with ⟨b0, -, -⟩ | ⟨-, b1, b2, b3⟩ | ⟨-, b1, b2, b3⟩
  · omega
  · rcases h1 with ⟨c1, -, -⟩ | ⟨-, c2, c3, c4⟩ | ⟨-, c2, c3, c4⟩
    · omega
    · obtain ⟨w1, w2⟩ := why_2 a b3 c2
      rcases f2.end l0 with ⟨d1, d2, d3⟩ | ⟨d1, d2, d3, d4⟩ | ⟨d1, d2, d3, d4⟩ <;> rcases f3.end l0 with ⟨e1, e2, e3⟩ | ⟨e1, e2, e3, e4⟩ | ⟨e1, e2, e3, e4⟩ <;> rcases h3 with ⟨g1, g2, g3⟩ | ⟨g1, g4, g2, g3⟩ | ⟨g1, g4, ⟨g2, g3⟩, g5⟩ <;> first | (exfalso; omega) | exact ⟨⟨by omega, by omega⟩, fun z => by omega⟩
    · rcases f2.end l0 with ⟨d1, d2, d3⟩ | ⟨d1, d2, d3, d4⟩ | ⟨d1, d2, d3, d4⟩
      · omega
      · rcases f3.end l0 with ⟨e1, e2, e3⟩ | ⟨e1, e2, e3, e4⟩ | ⟨e1, e2, e3, e4⟩
        · omega
        · obtain ⟨w1, w2⟩ := why_5 a b3 c2 d4 e4
          rcases h3 with ⟨g1, g2, g3⟩ | ⟨g1, g4, g2, g3⟩ | ⟨g1, g4, ⟨g2, g3⟩, g5⟩
          · omega
          · rw [if_pos g4] at w1 w2
            exact ⟨⟨by omega, by omega⟩, fun z => by omega⟩
          · rw [if_neg (by omega)] at w1 w2
            exact ⟨⟨by omega, by omega⟩, fun _ => g5⟩
        · obtain ⟨w1, w2⟩ := why_4 a b3 c2 d4 e4
          rcases h3 with ⟨g1, g2, g3⟩ | ⟨g1, g4, g2, g3⟩ | ⟨g1, g4, ⟨g2, g3⟩, g5⟩ <;> first | (exfalso; omega) | exact ⟨⟨by omega, by omega⟩, fun z => by omega⟩
      · obtain ⟨w1, w2⟩ := why_3 a b3 c2 d4
        rcases f3.end l0 with ⟨e1, e2, e3⟩ | ⟨e1, e2, e3, e4⟩ | ⟨e1, e2, e3, e4⟩ <;> rcases h3 with ⟨g1, g2, g3⟩ | ⟨g1, g4, g2, g3⟩ | ⟨g1, g4, ⟨g2, g3⟩, g5⟩ <;> first | (exfalso; omega) | exact ⟨⟨by omega, by omega⟩, fun z => by omega⟩
  · obtain ⟨w1, w2⟩ := why_1 (v := v) a b3
    rcases h1 with ⟨c1, c2, c3⟩ | ⟨c1, c2, c3, c4⟩ | ⟨c1, c2, c3, c4⟩ <;> first | (exfalso; omega) | (rcases f2.end l0 with ⟨d1, d2, d3⟩ | ⟨d1, d2, d3, d4⟩ | ⟨d1, d2, d3, d4⟩ <;> rcases f3.end l0 with ⟨e1, e2, e3⟩ | ⟨e1, e2, e3, e4⟩ | ⟨e1, e2, e3, e4⟩ <;> rcases h3 with ⟨g1, g2, g3⟩ | ⟨g1, g4, g2, g3⟩ | ⟨g1, g4, ⟨g2, g3⟩, g5⟩ <;> first | (exfalso; omega) | exact ⟨⟨by omega, by omega⟩, fun z => by omega⟩)
theorem mt_fits {σ D : sto} {ns nv v : Int} {P : pln} (hC : DR σ D ns nv) (hO : DOK D ns nv) (hQ : RA σ P) (v0 : 0 ≤ v) (v1 : v < nv) (hl : RV ns (P v)) : CI M_Mod_fits 4 [vR 169, vI v] σ (fun r σ' => (r = 1 ∧ whyOf D v (P v) = 0 ∧ RN D v (P v) σ' ∨ r = 0 ∧ whyOf D v (P v) ≠ 0) ∧ σ' 169 30 = whyOf D v (P v) ∧ σ' 169 31 = whrOf D v (P v) ∧ RF σ σ') := by
  have hn := hO.1
  have hl0 := ln0 (P v)
  have hz := hQ.len v0 (show v < 3 by omega)
  have hF0 : ∀ c i : Int, (c ≠ 169 ∨ i < 30 ∨ 32 < i) → (wr (wr (wr σ 169 30 0) 169 31 (-1)) 169 32 0) c i = σ c i := fun c i q => by rw [wr_ne (by omega), wr_ne (by omega), wr_ne (by omega)]
  have hR0 : RF σ (wr (wr (wr σ 169 30 0) 169 31 (-1)) 169 32 0) := fun c i _ _ _ q => hF0 c i (by omega)
  have hC0 := hR0.dr hC
  have hQ0 := hR0.ra hQ
  have hw0 : WY (wr (wr (wr σ 169 30 0) 169 31 (-1)) 169 32 0) 0 (-1) := ⟨by rw [wr_ne (by omega), wr_ne (by omega), wr_eq], by rw [wr_ne (by omega), wr_eq]⟩
  have hz0 : (wr (wr (wr σ 169 30 0) 169 31 (-1)) 169 32 0) 184 v = ln (P v) := by rw [hF0 184 v (by omega)]; exact hz.1
  refine ci_of [vR 169, vI v] fy_Mod_fits.1 rfl (Nat.le_of_ble_eq_true rfl) ?_
  refine r_aload_n 0 d_Mod_fits_0 rfl rfl ?_
  refine r_iconst d_Mod_fits_1 ?_
  refine r_putI 30 d_Mod_fits_2 fk_Mod_171 rfl rfl rfl (Or.inl rfl) ?_
  refine r_aload_n 0 d_Mod_fits_5 rfl rfl ?_
  refine r_iconst d_Mod_fits_6 ?_
  refine r_putI 31 d_Mod_fits_7 fk_Mod_174 rfl rfl rfl (Or.inl rfl) ?_
  refine r_aload_n 0 d_Mod_fits_10 rfl rfl ?_
  refine r_iconst d_Mod_fits_11 ?_
  refine r_putI 32 d_Mod_fits_12 fk_Mod_185 rfl rfl rfl (Or.inl rfl) ?_
  refine r_aload_n 0 d_Mod_fits_15 rfl rfl ?_
  refine r_getR 184 d_Mod_fits_16 fk_Mod_52 rfl rfl rfl (by decide) ?_
  refine r_iload_n 1 d_Mod_fits_19 rfl rfl ?_
  refine r_iald 3 d_Mod_fits_20 rfl rfl (by omega) (by omega) ?_
  rw [hz0]
  refine r_if_ne 26 d_Mod_fits_21 rfl (by omega) (fun h21 => ?_) (fun h21 => ?_)
  · refine r_aload_n 0 d_Mod_fits_26 rfl rfl ?_
    refine r_iload_n 1 d_Mod_fits_27 rfl rfl ?_
    refine r_cVV 8 d_Mod_fits_28 lk_Mod_191 vc_Mod_pairs (mt_pairs hC0 hO hQ0 v0 v1 hl hw0) rfl rfl rfl rfl ⟨Nat.le_of_ble_eq_true rfl, Nat.le_of_ble_eq_true rfl⟩ ⟨Nat.zero_le _, Nat.zero_le _⟩ (Nat.le_of_ble_eq_true rfl) (fun s28 q28 => ?_)
    obtain ⟨y, x, w1, f1, yf⟩ := q28
    have hC1 := yf.dr hC0
    have hQ1 := yf.ra hQ0
    refine r_aload_n 0 d_Mod_fits_31 rfl rfl ?_
    refine r_iload_n 1 d_Mod_fits_32 rfl rfl ?_
    refine r_cVV 8 d_Mod_fits_33 lk_Mod_195 vc_Mod_loads (mt_loads hC1 hO hQ1 v0 v1 hl w1 (f1.yr (by omega) (by omega))) rfl rfl rfl rfl ⟨Nat.le_of_ble_eq_true rfl, Nat.le_of_ble_eq_true rfl⟩ ⟨Nat.zero_le _, Nat.zero_le _⟩ (Nat.le_of_ble_eq_true rfl) (fun s33 q33 => ?_)
    obtain ⟨y1, x1, y2, x2, hc1, w2, f2, ha, hF2⟩ := q33
    have hC2 := hC1.keep (σ' := s33) (fun c i q => hF2 c i (by omega) (by omega))
    have hQ2 := hQ1.keep (σ' := s33) (fun c i q => hF2 c i (by omega) (by omega))
    have hy1 : 0 ≤ y1 ∧ y1 ≤ 4 := by have := f1.yr (by omega) (by omega); omega
    refine r_aload_n 0 d_Mod_fits_36 rfl rfl ?_
    refine r_iload_n 1 d_Mod_fits_37 rfl rfl ?_
    refine r_cVV 8 d_Mod_fits_38 lk_Mod_198 vc_Mod_goes (mt_goes hC2 hO hQ2 v0 v1 hl w2 (f2.yr hy1 (by omega))) rfl rfl rfl rfl ⟨Nat.le_of_ble_eq_true rfl, Nat.le_of_ble_eq_true rfl⟩ ⟨Nat.zero_le _, Nat.zero_le _⟩ (Nat.le_of_ble_eq_true rfl) (fun s38 q38 => ?_)
    obtain ⟨⟨y3, x3, f3, hc3⟩, gF⟩ := q38
    obtain ⟨hwy, hval⟩ := fit_end h21 f1 hc1 f2 f3 hc3
    have hRF : RF σ s38 := fun c i q1 q2 q3 q4 => by rw [gF c i q1 q2 (by omega) q4, hF2 c i (by omega) (by omega), yf c i (by omega), hF0 c i (by omega)]
    refine r_aload_n 0 d_Mod_fits_41 rfl rfl ?_
    refine r_getI 30 d_Mod_fits_42 fk_Mod_171 rfl rfl rfl ?_
    rw [hwy.1]
    have hwi := whyOf_in D v (P v)
    refine r_if_ne 52 d_Mod_fits_45 rfl (by omega) (fun h45 => ?_) (fun h45 => ?_)
    · refine r_iconst d_Mod_fits_52 ?_
      refine q_zret d_Mod_fits_53 rfl (by omega) ?_
      first
        | (obtain ⟨z1, z2, z3⟩ := hval h45
           refine ⟨Or.inl ⟨rfl, h45, ?_, fun _ => ⟨z1, fun i i0 i1 => ?_⟩⟩, hwy.1, hwy.2, hRF⟩
           · rw [z2]; unfold cst; rw [if_neg h21]
           · obtain ⟨t1, t2, t3⟩ := z3 i i0 i1
             exact ⟨t1, t2, t3, by rw [gF 195 i (by omega) (by omega) (by omega) (by omega)]; exact ha i i0 i1⟩)
        | exact ⟨Or.inr ⟨rfl, h45⟩, hwy.1, hwy.2, hRF⟩
    · refine r_iconst d_Mod_fits_48 ?_
      refine r_goto 53 d_Mod_fits_49 rfl ?_
      refine q_zret d_Mod_fits_53 rfl (by omega) ?_
      first
        | (obtain ⟨z1, z2, z3⟩ := hval h45
           refine ⟨Or.inl ⟨rfl, h45, ?_, fun _ => ⟨z1, fun i i0 i1 => ?_⟩⟩, hwy.1, hwy.2, hRF⟩
           · rw [z2]; unfold cst; rw [if_neg h21]
           · obtain ⟨t1, t2, t3⟩ := z3 i i0 i1
             exact ⟨t1, t2, t3, by rw [gF 195 i (by omega) (by omega) (by omega) (by omega)]; exact ha i i0 i1⟩)
        | exact ⟨Or.inr ⟨rfl, h45⟩, hwy.1, hwy.2, hRF⟩
  · refine r_iconst d_Mod_fits_24 ?_
    refine q_zret d_Mod_fits_25 rfl (by omega) ?_
    have e0 : whyOf D v (P v) = 0 := if_pos h21
    refine ⟨Or.inl ⟨rfl, e0, ?_, fun q => by omega⟩, by rw [hw0.1, e0], by rw [hw0.2]; exact (if_pos h21).symm, hR0⟩
    rw [wr_eq]
    exact (if_pos h21).symm
theorem mt_allFit {σ D : sto} {ns nv : Int} {P : pln} (hC : DR σ D ns nv) (hO : DOK D ns nv) (hQ : RA σ P) (hl : RVP ns P) : CI M_Mod_allFit 5 [vR 169] σ (fun r σ' => (r = 1 ∧ AF D nv P ∨ r = 0 ∧ ¬ AF D nv P) ∧ RF σ σ') := by
  have hn := hO.1
  have key : ∀ v, 0 ≤ v → v ≤ nv → ∀ (σ1 : sto) (x : Int), RF σ σ1 → (x = 1 ∧ (∀ u, 0 ≤ u → u < v → whyOf D u (P u) = 0) ∨ x = 0 ∧ ¬ AF D nv P) → Run M_Mod_allFit (rxI 5 (fun r σ' => (r = 1 ∧ AF D nv P ∨ r = 0 ∧ ¬ AF D nv P) ∧ RF σ σ')) (0, 0) 4 [vR 169, vI x, vI v] [] (sg σ1) := by
    refine up_ind (b := nv) ?_ ?_
    · intro σ1 x hR hx
      have h14 := (hR.dr hC).2.1
      refine r_iload_n 2 d_Mod_allFit_4 rfl rfl ?_
      refine r_aload_n 0 d_Mod_allFit_5 rfl rfl ?_
      refine r_getI 14 d_Mod_allFit_6 fk_Mod_105 rfl rfl rfl ?_
      rw [h14]
      refine r_icmp_ge 28 d_Mod_allFit_9 rfl (by omega) (by omega) (fun h9 => ?_) (fun h9 => absurd h9 (by omega))
      refine r_iload_n 1 d_Mod_allFit_28 rfl rfl ?_
      refine q_zret d_Mod_allFit_29 rfl (by omega) ?_
      exact ⟨hx, hR⟩
    · intro v v0 v1 ih σ1 x hR hx
      have h14 := (hR.dr hC).2.1
      refine r_iload_n 2 d_Mod_allFit_4 rfl rfl ?_
      refine r_aload_n 0 d_Mod_allFit_5 rfl rfl ?_
      refine r_getI 14 d_Mod_allFit_6 fk_Mod_105 rfl rfl rfl ?_
      rw [h14]
      refine r_icmp_ge 28 d_Mod_allFit_9 rfl (by omega) (by omega) (fun h9 => absurd h9 (by omega)) (fun h9 => ?_)
      refine r_iload_n 1 d_Mod_allFit_12 rfl rfl ?_
      refine r_if_eq 28 d_Mod_allFit_13 rfl (by omega) (fun h13 => ?_) (fun h13 => ?_)
      · refine r_iload_n 1 d_Mod_allFit_28 rfl rfl ?_
        refine q_zret d_Mod_allFit_29 rfl (by omega) ?_
        exact ⟨Or.inr ⟨by omega, (hx.resolve_left (fun q => by omega)).2⟩, hR⟩
      · refine r_aload_n 0 d_Mod_allFit_16 rfl rfl ?_
        refine r_iload_n 2 d_Mod_allFit_17 rfl rfl ?_
        refine r_cVI 8 d_Mod_allFit_18 lk_Mod_201 vc_Mod_fits (mt_fits (hR.dr hC) hO (hR.ra hQ) v0 v1 (hl v v0 (by omega))) rfl rfl rfl rfl ⟨Nat.le_of_ble_eq_true rfl, Nat.le_of_ble_eq_true rfl⟩ ⟨Nat.zero_le _, Nat.zero_le _⟩ (Nat.le_of_ble_eq_true rfl) (fun r18 s18 q18 => ?_)
        obtain ⟨qa, -, -, qR⟩ := q18
        refine r_istore_n 1 d_Mod_allFit_21 rfl (by decide) rfl ?_
        refine r_iinc 2 d_Mod_allFit_22 rfl (by decide) rfl ?_
        refine r_goto 4 d_Mod_allFit_25 rfl ?_
        refine ih _ _ (hR.tr qR) ?_
        have hx := hx.resolve_right (fun q => h13 q.1)
        rcases qa with ⟨a, b, c⟩ | ⟨a, b⟩
        · refine Or.inl ⟨a, fun u u0 u1 => ?_⟩
          by_cases e : u = v
          · rw [e]; exact b
          · exact hx.2 u u0 (by omega)
        · exact Or.inr ⟨a, fun q => b (q v v0 v1)⟩
  refine ci_of [vR 169, vU, vU] fy_Mod_allFit.1 rfl (Nat.le_of_ble_eq_true rfl) ?_
  refine r_iconst d_Mod_allFit_0 ?_
  refine r_istore_n 1 d_Mod_allFit_1 rfl (by decide) rfl ?_
  refine r_iconst d_Mod_allFit_2 ?_
  refine r_istore_n 2 d_Mod_allFit_3 rfl (by decide) rfl ?_
  exact key 0 (by omega) (by omega) σ 1 RF.rf (Or.inl ⟨rfl, fun u u0 u1 => by omega⟩)
theorem mt_costOf {σ D : sto} {ns nv v : Int} {P : pln} (hC : DR σ D ns nv) (hO : DOK D ns nv) (hQ : RA σ P) (v0 : 0 ≤ v) (v1 : v < nv) (hl : RV ns (P v)) : CI M_Mod_costOf 5 [vR 169, vI v] σ (fun r σ' => (whyOf D v (P v) = 0 → r = cst D v (P v)) ∧ RF σ σ') := by
  refine ci_of [vR 169, vI v, vU] fy_Mod_costOf.1 rfl (Nat.le_of_ble_eq_true rfl) ?_
  refine r_aload_n 0 d_Mod_costOf_0 rfl rfl ?_
  refine r_iload_n 1 d_Mod_costOf_1 rfl rfl ?_
  refine r_cVI 8 d_Mod_costOf_2 lk_Mod_201 vc_Mod_fits (mt_fits hC hO hQ v0 v1 hl) rfl rfl rfl rfl ⟨Nat.le_of_ble_eq_true rfl, Nat.le_of_ble_eq_true rfl⟩ ⟨Nat.zero_le _, Nat.zero_le _⟩ (Nat.le_of_ble_eq_true rfl) (fun r2 s2 q2 => ?_)
  obtain ⟨qa, -, -, qR⟩ := q2
  refine r_istore_n 2 d_Mod_costOf_5 rfl (by decide) rfl ?_
  refine r_aload_n 0 d_Mod_costOf_6 rfl rfl ?_
  refine r_getI 32 d_Mod_costOf_7 fk_Mod_185 rfl rfl rfl ?_
  refine q_iret d_Mod_costOf_10 rfl ?_
  exact ⟨fun h => (qa.resolve_right (fun q => q.2 h)).2.2.1, qR⟩
theorem mt_costAll {σ D : sto} {ns nv : Int} {P : pln} (hC : DR σ D ns nv) (hO : DOK D ns nv) (hQ : RA σ P) (hl : RVP ns P) (hA : AF D nv P) : CI M_Mod_costAll 6 [vR 169] σ (fun r σ' => r = tot D nv P ∧ RF σ σ') := by
  have hn := hO.1
  have key : ∀ v, 0 ≤ v → v ≤ nv → ∀ (σ1 : sto), RF σ σ1 → Run M_Mod_costAll (rxI 6 (fun r σ' => r = tot D nv P ∧ RF σ σ')) (0, 0) 4 [vR 169, vI (tot D v P), vI v] [] (sg σ1) := by
    refine up_ind (b := nv) ?_ ?_
    · intro σ1 hR
      have h14 := (hR.dr hC).2.1
      refine r_iload_n 2 d_Mod_costAll_4 rfl rfl ?_
      refine r_aload_n 0 d_Mod_costAll_5 rfl rfl ?_
      refine r_getI 14 d_Mod_costAll_6 fk_Mod_105 rfl rfl rfl ?_
      rw [h14]
      refine r_icmp_ge 26 d_Mod_costAll_9 rfl (by omega) (by omega) (fun h9 => ?_) (fun h9 => absurd h9 (by omega))
      refine r_iload_n 1 d_Mod_costAll_26 rfl rfl ?_
      refine q_iret d_Mod_costAll_27 rfl ?_
      exact ⟨rfl, hR⟩
    · intro v v0 v1 ih σ1 hR
      have h14 := (hR.dr hC).2.1
      rw [tot_s v0] at ih
      refine r_iload_n 2 d_Mod_costAll_4 rfl rfl ?_
      refine r_aload_n 0 d_Mod_costAll_5 rfl rfl ?_
      refine r_getI 14 d_Mod_costAll_6 fk_Mod_105 rfl rfl rfl ?_
      rw [h14]
      refine r_icmp_ge 26 d_Mod_costAll_9 rfl (by omega) (by omega) (fun h9 => absurd h9 (by omega)) (fun h9 => ?_)
      refine r_iload_n 1 d_Mod_costAll_12 rfl rfl ?_
      refine r_aload_n 0 d_Mod_costAll_13 rfl rfl ?_
      refine r_iload_n 2 d_Mod_costAll_14 rfl rfl ?_
      refine r_cVI 8 d_Mod_costAll_15 lk_Mod_204 vc_Mod_costOf (mt_costOf (hR.dr hC) hO (hR.ra hQ) v0 v1 (hl v v0 (by omega))) rfl rfl rfl rfl ⟨Nat.le_of_ble_eq_true rfl, Nat.le_of_ble_eq_true rfl⟩ ⟨Nat.zero_le _, Nat.zero_le _⟩ (Nat.le_of_ble_eq_true rfl) (fun r15 s15 q15 => ?_)
      obtain ⟨qa, qR⟩ := q15
      have qa := qa (hA v v0 v1)
      refine r_iadd d_Mod_costAll_18 ?_
      refine r_istore_n 1 d_Mod_costAll_19 rfl (by decide) rfl ?_
      refine r_iinc 2 d_Mod_costAll_20 rfl (by decide) rfl ?_
      refine r_goto 4 d_Mod_costAll_23 rfl ?_
      rw [qa]
      exact ih _ (hR.tr qR)
  refine ci_of [vR 169, vU, vU] fy_Mod_costAll.1 rfl (Nat.le_of_ble_eq_true rfl) ?_
  refine r_iconst d_Mod_costAll_0 ?_
  refine r_istore_n 1 d_Mod_costAll_1 rfl (by decide) rfl ?_
  refine r_iconst d_Mod_costAll_2 ?_
  refine r_istore_n 2 d_Mod_costAll_3 rfl (by decide) rfl ?_
  exact key 0 (by omega) (by omega) σ RF.rf
