-- THE REFERENCE: better (walks written by wip/whole/gen_rbt.py)
/-- what the search for moves leaves -/
def XF (σ σ' : sto) : Prop := ∀ c i : Int, c ≠ 183 → c ≠ 184 → c ≠ 187 → c ≠ 189 → c ≠ 190 → (c < 192 ∨ 195 < c) → (c ≠ 169 ∨ i < 29 ∨ 32 < i) → σ' c i = σ c i
theorem XF.rf {σ : sto} : XF σ σ := fun _ _ _ _ _ _ _ _ _ => rfl
theorem XF.tr {σ σ' σ'' : sto} (h : XF σ σ') (g : XF σ' σ'') : XF σ σ'' := fun c i a b d e f k l => (g c i a b d e f k l).trans (h c i a b d e f k l)
theorem RF.xf {σ σ' : sto} (h : RF σ σ') : XF σ σ' := fun c i _ _ _ q3 q4 q5 q6 => h c i q3 q4 q5 q6
theorem PRF.xf {σ σ' : sto} (h : PRF σ σ') : XF σ σ' := fun c i q1 q2 _ _ _ _ _ => h c i q1 q2
theorem XF.dr {σ σ' D : sto} {ns nv : Int} (h : XF σ σ') (hC : DR σ D ns nv) : DR σ' D ns nv := hC.keep (fun c i q => h c i (by omega) (by omega) (by omega) (by omega) (by omega) (by omega) (by omega))
theorem XF.re {σ σ' : sto} {g : G} (h : XF σ σ') (hE : RE σ g) : RE σ' g := hE.keep (fun c i q => h c i (by omega) (by omega) (by omega) (by omega) (by omega) (by omega) (by omega))
theorem XF.ap {σ σ' : sto} {o : Int} {P : pln} (h : XF σ σ') (hA : AP σ 186 o P) : AP σ' 186 o P := hA.keep (fun k _ _ => h 186 k (by omega) (by omega) (by omega) (by omega) (by omega) (by omega) (by omega))
theorem XF.mf {σ σ' : sto} (h : XF σ σ') : MF σ σ' := fun c i q => h c i (by omega) (by omega) (by omega) (by omega) (by omega) (by omega) (by omega)
theorem mvi_none {D : sto} {nv s v : Int} {P : pln} (h : ∀ i, 0 ≤ i → i < ln (rmv1 P s v) + 1 → ¬ mok D nv P s v i) : ¬ mvi D nv P s v < ln (rmv1 P s v) + 1 := by
  have := ln0 (rmv1 P s v)
  unfold mvi
  rw [fst1_none (by omega) (fun i i0 i1 => mokb_f (h i i0 i1))]; omega
theorem mvi_at {D : sto} {nv s v i : Int} {P : pln} (i0 : 0 ≤ i) (i1 : i < ln (rmv1 P s v) + 1) (hm : mok D nv P s v i) (h : ∀ j, 0 ≤ j → j < i → ¬ mok D nv P s v j) : mvi D nv P s v = i := fst1_of i0 i1 (mokb_t hm) (fun j j0 j1 => mokb_f (h j j0 j1))
theorem mvv_none {D : sto} {nv s : Int} {P : pln} (n0 : 0 ≤ nv) (h : ∀ v, 0 ≤ v → v < nv → ¬ mvi D nv P s v < ln (rmv1 P s v) + 1) : ¬ mvv D nv P s < nv := by
  unfold mvv
  rw [fst1_none n0 (fun v v0 v1 => decide_eq_false (h v v0 v1))]; omega
theorem mvv_at {D : sto} {nv s v : Int} {P : pln} (v0 : 0 ≤ v) (v1 : v < nv) (hm : mvi D nv P s v < ln (rmv1 P s v) + 1) (h : ∀ u, 0 ≤ u → u < v → ¬ mvi D nv P s u < ln (rmv1 P s u) + 1) : mvv D nv P s = v := fst1_of v0 v1 (decide_eq_true hm) (fun j j0 j1 => decide_eq_false (h j j0 j1))
theorem mvs_none {D : sto} {ns nv : Int} {P : pln} (n0 : 0 ≤ ns) (h : ∀ s, 0 ≤ s → s < ns → ¬ (vanOf P s ≠ -1 ∧ mvv D nv P s < nv)) : ¬ mvs D ns nv P < ns := by
  unfold mvs
  rw [fst1_none n0 (fun v v0 v1 => decide_eq_false (h v v0 v1))]; omega
theorem mvs_at {D : sto} {ns nv s : Int} {P : pln} (s0 : 0 ≤ s) (s1 : s < ns) (hm : vanOf P s ≠ -1 ∧ mvv D nv P s < nv) (h : ∀ u, 0 ≤ u → u < s → ¬ (vanOf P u ≠ -1 ∧ mvv D nv P u < nv)) : mvs D ns nv P = s := fst1_of s0 s1 (decide_eq_true hm) (fun j j0 j1 => decide_eq_false (h j j0 j1))
theorem mt_isBettered {σ D : sto} {ns nv : Int} {P : pln} (hC : DR σ D ns nv) (hO : DOK D ns nv) (hQ : RA σ P) (hP : PO ns nv P) (hA : AF D nv P) : CI M_Mod_isBettered 8 [vR 169] σ (fun r σ' => (mvs D ns nv P < ns ∧ r = 1 ∧ RA σ' (imp D ns nv P) ∨ ¬ mvs D ns nv P < ns ∧ r = 0 ∧ RA σ' P) ∧ XF σ σ') := by
  have hn := hO.1
  have hRV := hP.rv hn.1 hn.2.1
  have hto := tot_in hO hRV hA nv hn.2.2.1 (Int.le_refl _)
  have LS : ∀ s, 0 ≤ s → s ≤ ns → ∀ σ1 : sto, RA σ1 P → XF σ σ1 → (∀ u, 0 ≤ u → u < s → ¬ (vanOf P u ≠ -1 ∧ mvv D nv P u < nv)) → Run M_Mod_isBettered (rxI 8 (fun r σ' => (mvs D ns nv P < ns ∧ r = 1 ∧ RA σ' (imp D ns nv P) ∨ ¬ mvs D ns nv P < ns ∧ r = 0 ∧ RA σ' P) ∧ XF σ σ')) (0, 0) 7 [vR 169, vI (tot D nv P), vI s, vU, vU, vU] [] (sg σ1) := by
    refine up_ind (b := ns) ?_ ?_
    · intro σ1 hQ1 hF1 hN
      have h13 := (hF1.dr hC).1
      refine r_iload_n 2 d_Mod_isBettered_7 rfl rfl ?_
      refine r_aload_n 0 d_Mod_isBettered_8 rfl rfl ?_
      refine r_getI 13 d_Mod_isBettered_9 fk_Mod_102 rfl rfl rfl ?_
      rw [h13]
      refine r_icmp_ge 135 d_Mod_isBettered_12 rfl (by omega) (by omega) (fun h12 => ?_) (fun h12 => absurd h12 (by omega))
      refine r_iconst d_Mod_isBettered_135 ?_
      refine q_zret d_Mod_isBettered_136 rfl (by omega) ?_
      exact ⟨Or.inr ⟨mvs_none hn.1 hN, rfl, hQ1⟩, hF1⟩
    · intro s s0 s1 ihs σ1 hQ1 hF1 hN
      have h13 := (hF1.dr hC).1
      have hvi := vanOf_in P s
      have LV : 0 ≤ vanOf P s → ∀ v, 0 ≤ v → v ≤ nv → ∀ σ2 : sto, RA σ2 P → XF σ σ2 → (∀ u, 0 ≤ u → u < v → ¬ mvi D nv P s u < ln (rmv1 P s u) + 1) → Run M_Mod_isBettered (rxI 8 (fun r σ' => (mvs D ns nv P < ns ∧ r = 1 ∧ RA σ' (imp D ns nv P) ∨ ¬ mvs D ns nv P < ns ∧ r = 0 ∧ RA σ' P) ∧ XF σ σ')) (0, 0) 28 [vR 169, vI (tot D nv P), vI s, vI v, vU, vU] [] (sg σ2) := by
        intro hv0
        have hin := van_in hv0
        obtain ⟨p1, hs1⟩ := hP.rmv hn.2.2.2 s
        have e1 := rmv1_eq (P := P) (s := s) rfl (by omega)
        have hy := vanOf_yes hP hin
        refine up_ind (b := nv) ?_ ?_
        · intro σ2 hQ2 hF2 hV
          have h14 := (hF2.dr hC).2.1
          have hvn := mvv_none hn.2.2.1 hV
          refine r_iload_n 3 d_Mod_isBettered_28 rfl rfl ?_
          refine r_aload_n 0 d_Mod_isBettered_29 rfl rfl ?_
          refine r_getI 14 d_Mod_isBettered_30 fk_Mod_105 rfl rfl rfl ?_
          rw [h14]
          refine r_icmp_ge 129 d_Mod_isBettered_33 rfl (by omega) (by omega) (fun h33 => ?_) (fun h33 => absurd h33 (by omega))
          refine r_iinc 2 d_Mod_isBettered_129 rfl (by decide) rfl ?_
          refine r_goto 7 d_Mod_isBettered_132 rfl ?_
          refine r_drop 3 (ihs σ2 hQ2 hF2 (fun u u0 u1 => ?_))
          by_cases e : u = s
          · rw [e]; exact fun q => hvn q.2
          · exact hN u u0 (by omega)
        · intro v v0 v1 ihv σ2 hQ2 hF2 hV
          have h14 := (hF2.dr hC).2.1
          have hz := hQ2.len v0 (show v < 3 by omega)
          have hl0 := ln0 (rmv1 P s v)
          have LI : ∀ i, 0 ≤ i → i ≤ ln (rmv1 P s v) + 1 → ∀ σ3 : sto, RA σ3 P → XF σ σ3 → (∀ j, 0 ≤ j → j < i → ¬ mok D nv P s v j) → Run M_Mod_isBettered (rxI 8 (fun r σ' => (mvs D ns nv P < ns ∧ r = 1 ∧ RA σ' (imp D ns nv P) ∨ ¬ mvs D ns nv P < ns ∧ r = 0 ∧ RA σ' P) ∧ XF σ σ')) (0, 0) 62 [vR 169, vI (tot D nv P), vI s, vI v, vI (ln (rmv1 P s v)), vI i] [] (sg σ3) := by
            have hl12 := (p1.rv hn.1 hn.2.1 v v0 (by omega)).1
            refine up_ind (b := ln (rmv1 P s v) + 1) ?_ ?_
            · intro σ3 hQ3 hF3 hM
              refine r_iload 5 d_Mod_isBettered_62 rfl ?_
              refine r_iload 4 d_Mod_isBettered_64 rfl ?_
              refine r_icmp_gt 123 d_Mod_isBettered_66 rfl (by omega) (by omega) (fun h66 => ?_) (fun h66 => absurd h66 (by omega))
              refine r_iinc 3 d_Mod_isBettered_123 rfl (by decide) rfl ?_
              refine r_goto 28 d_Mod_isBettered_126 rfl ?_
              refine r_drop 4 (r_drop 5 (ihv σ3 hQ3 hF3 (fun u u0 u1 => ?_)))
              by_cases e : u = v
              · rw [e]; exact mvi_none hM
              · exact hV u u0 (by omega)
            · intro i i0 i1 ihi σ3 hQ3 hF3 hM
              have ro := row_ok hO p1 (v := v) (i := i) v0 v1 i0 (by omega) s0 s1 hs1
              have hback : ∀ σ4 : sto, AP σ4 187 0 P → XF σ σ4 → ¬ mok D nv P s v i → Run M_Mod_isBettered (rxI 8 (fun r σ' => (mvs D ns nv P < ns ∧ r = 1 ∧ RA σ' (imp D ns nv P) ∨ ¬ mvs D ns nv P < ns ∧ r = 0 ∧ RA σ' P) ∧ XF σ σ')) (0, 0) 108 [vR 169, vI (tot D nv P), vI s, vI v, vI (ln (rmv1 P s v)), vI i] [] (sg σ4) := by
                intro σ4 hA4 hF4 hno
                refine r_aload_n 0 d_Mod_isBettered_108 rfl rfl ?_
                refine r_aload_n 0 d_Mod_isBettered_109 rfl rfl ?_
                refine r_getR 187 d_Mod_isBettered_110 fk_Mod_61 rfl rfl rfl (by decide) ?_
                refine r_iconst d_Mod_isBettered_113 ?_
                refine r_cVV 8 d_Mod_isBettered_114 lk_Mod_217 vc_Mod_takes (mt_takes (n := 39) rfl rfl (Int.le_refl _) (by omega) (by omega) (by omega)) rfl rfl rfl rfl ⟨Nat.le_of_ble_eq_true rfl, Nat.le_of_ble_eq_true rfl⟩ ⟨Nat.zero_le _, Nat.zero_le _⟩ (Nat.le_of_ble_eq_true rfl) (fun s114 q114 => ?_)
                obtain ⟨t1, t2, t3⟩ := q114
                refine r_iinc 5 d_Mod_isBettered_117 rfl (by decide) rfl ?_
                refine r_goto 62 d_Mod_isBettered_120 rfl ?_
                refine ihi _ (hA4.to t1 t2) (fun c k z1 z2 z3 z4 z5 z6 z7 => by rw [t3 c k z1 z2]; exact hF4 c k z1 z2 z3 z4 z5 z6 z7) (fun j j0 j1 => ?_)
                by_cases e : j = i
                · rw [e]; exact hno
                · exact hM j j0 (by omega)
              refine r_iload 5 d_Mod_isBettered_62 rfl ?_
              refine r_iload 4 d_Mod_isBettered_64 rfl ?_
              refine r_icmp_gt 123 d_Mod_isBettered_66 rfl (by omega) (by omega) (fun h66 => absurd h66 (by omega)) (fun h66 => ?_)
              refine r_aload_n 0 d_Mod_isBettered_69 rfl rfl ?_
              refine r_aload_n 0 d_Mod_isBettered_70 rfl rfl ?_
              refine r_getR 187 d_Mod_isBettered_71 fk_Mod_61 rfl rfl rfl (by decide) ?_
              refine r_iconst d_Mod_isBettered_74 ?_
              refine r_cVV 8 d_Mod_isBettered_75 lk_Mod_231 vc_Mod_keeps (mt_keeps (n := 39) rfl rfl (Int.le_refl _) (by omega) (by omega) (by omega)) rfl rfl rfl rfl ⟨Nat.le_of_ble_eq_true rfl, Nat.le_of_ble_eq_true rfl⟩ ⟨Nat.zero_le _, Nat.zero_le _⟩ (Nat.le_of_ble_eq_true rfl) (fun s75 q75 => ?_)
              obtain ⟨t1, t2, t3⟩ := q75
              have hA1 : AP s75 187 0 P := AP.of hQ3 t1 t2
              have hQ4 := hQ3.keep (σ' := s75) (fun c k z => t3 c k (by omega))
              have hF4 : XF σ s75 := fun c k z1 z2 z3 z4 z5 z6 z7 => by rw [t3 c k z3]; exact hF3 c k z1 z2 z3 z4 z5 z6 z7
              refine r_aload_n 0 d_Mod_isBettered_78 rfl rfl ?_
              refine r_iload_n 2 d_Mod_isBettered_79 rfl rfl ?_
              refine r_cVV 8 d_Mod_isBettered_80 lk_Mod_228 vc_Mod_takesOut (mt_takesOut (hF4.dr hC) ⟨hn.2.2.1, hn.2.2.2⟩ hQ4 hP (by omega) hin) rfl rfl rfl rfl ⟨Nat.le_of_ble_eq_true rfl, Nat.le_of_ble_eq_true rfl⟩ ⟨Nat.zero_le _, Nat.zero_le _⟩ (Nat.le_of_ble_eq_true rfl) (fun s80 q80 => ?_)
              obtain ⟨b1, b2⟩ := q80
              have hA2 := b2.ap (by omega) hA1
              have hF5 := hF4.tr b2.xf
              refine r_aload_n 0 d_Mod_isBettered_83 rfl rfl ?_
              refine r_iload_n 2 d_Mod_isBettered_84 rfl rfl ?_
              refine r_iload_n 3 d_Mod_isBettered_85 rfl rfl ?_
              refine r_iload 5 d_Mod_isBettered_86 rfl ?_
              refine r_cVV 8 d_Mod_isBettered_88 lk_Mod_224 vc_Mod_puts (mt_puts b1 v0 (by omega) i0 (by omega) ro.2.2.2 s0 (by omega)) rfl rfl rfl rfl ⟨Nat.le_of_ble_eq_true rfl, Nat.le_of_ble_eq_true rfl⟩ ⟨Nat.zero_le _, Nat.zero_le _⟩ (Nat.le_of_ble_eq_true rfl) (fun s88 q88 => ?_)
              obtain ⟨c1, c2⟩ := q88
              have hA3 := c2.ap (by omega) hA2
              have hF6 := hF5.tr c2.xf
              refine r_aload_n 0 d_Mod_isBettered_91 rfl rfl ?_
              refine r_cVI 8 d_Mod_isBettered_92 lk_Mod_133 vc_Mod_allFit (mt_allFit (hF6.dr hC) hO c1 ro.2.1) rfl rfl rfl rfl ⟨Nat.le_of_ble_eq_true rfl, Nat.le_of_ble_eq_true rfl⟩ ⟨Nat.zero_le _, Nat.zero_le _⟩ (Nat.le_of_ble_eq_true rfl) (fun r92 s92 q92 => ?_)
              obtain ⟨qa, qR⟩ := q92
              have hA4 := qR.ap (by omega) hA3
              have hF7 := hF6.tr qR.xf
              refine r_if_eq 108 d_Mod_isBettered_95 rfl (by omega) (fun h95 => ?_) (fun h95 => ?_)
              · first
                  | exact hback _ hA5 hF8 (fun q => by have := q.2; unfold mvd at this; omega)
                  | exact hback _ hA4 hF7 (fun q => (qa.resolve_left (fun z => by omega)).2 q.1)
              · have hav := (qa.resolve_right (fun q => h95 q.1)).2
                refine r_aload_n 0 d_Mod_isBettered_98 rfl rfl ?_
                refine r_cVI 8 d_Mod_isBettered_99 lk_Mod_209 vc_Mod_costAll (mt_costAll (hF7.dr hC) hO (qR.ra c1) ro.2.1 hav) rfl rfl rfl rfl ⟨Nat.le_of_ble_eq_true rfl, Nat.le_of_ble_eq_true rfl⟩ ⟨Nat.zero_le _, Nat.zero_le _⟩ (Nat.le_of_ble_eq_true rfl) (fun r99 s99 q99 => ?_)
                obtain ⟨ec, qR2⟩ := q99
                have hA5 := qR2.ap (by omega) hA4
                have hF8 := hF7.tr qR2.xf
                have htn := tot_in hO ro.2.1 hav nv hn.2.2.1 (Int.le_refl _)
                have htn : 0 ≤ r99 ∧ r99 ≤ 60000 * nv := by rw [ec]; exact htn
                refine r_iload_n 1 d_Mod_isBettered_102 rfl rfl ?_
                refine r_icmp_ge 108 d_Mod_isBettered_103 rfl (by omega) (by omega) (fun h103 => ?_) (fun h103 => ?_)
                · first
                    | exact hback _ hA5 hF8 (fun q => by have := q.2; unfold mvd at this; omega)
                    | exact hback _ hA4 hF7 (fun q => (qa.resolve_left (fun z => by omega)).2 q.1)
                · refine r_iconst d_Mod_isBettered_106 ?_
                  refine q_zret d_Mod_isBettered_107 rfl (by omega) ?_
                  have hmk : mok D nv P s v i := ⟨hav, by unfold mvd; omega⟩
                  have ei := mvi_at i0 i1 hmk hM
                  have ev := mvv_at v0 v1 (by rw [ei]; exact i1) hV
                  have es := mvs_at s0 s1 ⟨by omega, by rw [ev]; exact v1⟩ hN
                  refine ⟨Or.inl ⟨by rw [es]; exact s1, rfl, ?_⟩, hF8⟩
                  unfold imp mvp
                  rw [es, ev, ei]
                  exact qR2.ra (qR.ra c1)
          refine r_iload_n 3 d_Mod_isBettered_28 rfl rfl ?_
          refine r_aload_n 0 d_Mod_isBettered_29 rfl rfl ?_
          refine r_getI 14 d_Mod_isBettered_30 fk_Mod_105 rfl rfl rfl ?_
          rw [h14]
          refine r_icmp_ge 129 d_Mod_isBettered_33 rfl (by omega) (by omega) (fun h33 => absurd h33 (by omega)) (fun h33 => ?_)
          refine r_aload_n 0 d_Mod_isBettered_36 rfl rfl ?_
          refine r_getR 184 d_Mod_isBettered_37 fk_Mod_52 rfl rfl rfl (by decide) ?_
          refine r_iload_n 3 d_Mod_isBettered_40 rfl rfl ?_
          refine r_iald 3 d_Mod_isBettered_41 rfl rfl (by omega) (by omega) ?_
          rw [hz.1]
          refine r_aload_n 0 d_Mod_isBettered_42 rfl rfl ?_
          refine r_iload_n 2 d_Mod_isBettered_43 rfl rfl ?_
          refine r_cVP 8 d_Mod_isBettered_44 lk_Mod_156 vc_Mod_vanOf (mt_vanOf (hF2.dr hC) ⟨hn.2.2.1, hn.2.2.2⟩ hQ2 hP (by omega)) rfl rfl rfl rfl ⟨Nat.le_of_ble_eq_true rfl, Nat.le_of_ble_eq_true rfl⟩ ⟨Nat.zero_le _, Nat.zero_le _⟩ (Nat.le_of_ble_eq_true rfl) ?_
          refine r_iload_n 3 d_Mod_isBettered_47 rfl rfl ?_
          refine r_icmp_ne 55 d_Mod_isBettered_48 rfl (by omega) (by omega) (fun h48 => ?_) (fun h48 => ?_)
          · have hrl : ln (rmv1 P s v) = ln (P v) := by rw [e1, up_ne (by omega)]
            refine r_iconst d_Mod_isBettered_55 ?_
            refine r_isub d_Mod_isBettered_56 ?_
            refine r_istore 4 d_Mod_isBettered_57 (by decide) rfl ?_
            refine r_iconst d_Mod_isBettered_59 ?_
            refine r_istore 5 d_Mod_isBettered_60 (by decide) rfl ?_
            have hLI := LI 0 (by omega) (by omega) σ2 hQ2 hF2 (fun j j0 j1 => by omega)
            rw [hrl] at hLI
            first
              | exact hLI
              | (rw [Int.sub_zero]; exact hLI)
          · have hrl : ln (rmv1 P s v) = ln (P v) - 1 := by rw [e1, h48, up_eq, ln_del (by rw [h48] at hy; omega)]
            refine r_iconst d_Mod_isBettered_51 ?_
            refine r_goto 56 d_Mod_isBettered_52 rfl ?_
            refine r_isub d_Mod_isBettered_56 ?_
            refine r_istore 4 d_Mod_isBettered_57 (by decide) rfl ?_
            refine r_iconst d_Mod_isBettered_59 ?_
            refine r_istore 5 d_Mod_isBettered_60 (by decide) rfl ?_
            have hLI := LI 0 (by omega) (by omega) σ2 hQ2 hF2 (fun j j0 j1 => by omega)
            rw [hrl] at hLI
            first
              | exact hLI
              | (rw [Int.sub_zero]; exact hLI)
      refine r_iload_n 2 d_Mod_isBettered_7 rfl rfl ?_
      refine r_aload_n 0 d_Mod_isBettered_8 rfl rfl ?_
      refine r_getI 13 d_Mod_isBettered_9 fk_Mod_102 rfl rfl rfl ?_
      rw [h13]
      refine r_icmp_ge 135 d_Mod_isBettered_12 rfl (by omega) (by omega) (fun h12 => absurd h12 (by omega)) (fun h12 => ?_)
      refine r_aload_n 0 d_Mod_isBettered_15 rfl rfl ?_
      refine r_iload_n 2 d_Mod_isBettered_16 rfl rfl ?_
      refine r_cVP 8 d_Mod_isBettered_17 lk_Mod_156 vc_Mod_vanOf (mt_vanOf (hF1.dr hC) ⟨hn.2.2.1, hn.2.2.2⟩ hQ1 hP (by omega)) rfl rfl rfl rfl ⟨Nat.le_of_ble_eq_true rfl, Nat.le_of_ble_eq_true rfl⟩ ⟨Nat.zero_le _, Nat.zero_le _⟩ (Nat.le_of_ble_eq_true rfl) ?_
      refine r_if_ge 26 d_Mod_isBettered_20 rfl (by omega) (fun h20 => ?_) (fun h20 => ?_)
      · refine r_iconst d_Mod_isBettered_26 ?_
        refine r_istore_n 3 d_Mod_isBettered_27 rfl (by decide) rfl ?_
        exact LV (by omega) 0 (by omega) (by omega) σ1 hQ1 hF1 (fun u u0 u1 => by omega)
      · refine r_goto 129 d_Mod_isBettered_23 rfl ?_
        refine r_iinc 2 d_Mod_isBettered_129 rfl (by decide) rfl ?_
        refine r_goto 7 d_Mod_isBettered_132 rfl ?_
        refine ihs σ1 hQ1 hF1 (fun u u0 u1 => ?_)
        by_cases e : u = s
        · rw [e]; exact fun q => by omega
        · exact hN u u0 (by omega)
  refine ci_of [vR 169, vU, vU, vU, vU, vU] fy_Mod_isBettered.1 rfl (Nat.le_of_ble_eq_true rfl) ?_
  refine r_aload_n 0 d_Mod_isBettered_0 rfl rfl ?_
  refine r_cVI 8 d_Mod_isBettered_1 lk_Mod_209 vc_Mod_costAll (mt_costAll hC hO hQ hRV hA) rfl rfl rfl rfl ⟨Nat.le_of_ble_eq_true rfl, Nat.le_of_ble_eq_true rfl⟩ ⟨Nat.zero_le _, Nat.zero_le _⟩ (Nat.le_of_ble_eq_true rfl) (fun r1 s1 q1 => ?_)
  obtain ⟨ec, qR⟩ := q1
  subst ec
  refine r_istore_n 1 d_Mod_isBettered_4 rfl (by decide) rfl ?_
  refine r_iconst d_Mod_isBettered_5 ?_
  refine r_istore_n 2 d_Mod_isBettered_6 rfl (by decide) rfl ?_
  exact LS 0 (by omega) (by omega) _ (qR.ra hQ) qR.xf (fun u u0 u1 => by omega)
theorem cr_better {σ : sto} {g : G} {n : Int} (hI : RI σ g) (hk : g.ok) (h_n : inR n) : CI M_Mod_better 14 [vR 169, vI n] σ (QM (sp_better g n) σ) := by
  obtain ⟨hQ, hE⟩ := id hI
  obtain ⟨hC, hU, h45, hrow, h33, hrf⟩ := id hE
  obtain ⟨k1, k2, k3, k4, k5, k6⟩ := id hk
  have hn := k1.1
  have hRV := k2.rv hn.1 hn.2.1
  have hbo := btN_ok k1 n.toNat k2 k3
  have k53 : ∀ (d : Int) (σ1 : sto), 0 ≤ n → n ≤ 100 → RE σ1 g → AP σ1 186 0 g.P → RA σ1 (btN g.D g.ns g.nv g.P n.toNat).2 → d = (btN g.D g.ns g.nv g.P n.toNat).1 → MF σ σ1 → Run M_Mod_better (rxI 14 (QM (sp_better g n) σ)) (0, 0) 53 [vR 169, vI n, vI d] [] (sg σ1) := by
    intro d σ1 n0 n1 hE1 hA1 hQ1 hd hF1
    refine r_aload_n 0 d_Mod_better_53 rfl rfl ?_
    refine r_cVV 8 d_Mod_better_54 lk_Mod_221 vc_Mod_notes (mt_notes hQ1 hA1 hE1.2.1) rfl rfl rfl rfl ⟨Nat.le_of_ble_eq_true rfl, Nat.le_of_ble_eq_true rfl⟩ ⟨Nat.zero_le _, Nat.zero_le _⟩ (Nat.le_of_ble_eq_true rfl) (fun s54 q54 => ?_)
    obtain ⟨n1, n2⟩ := q54
    refine r_iload_n 2 d_Mod_better_57 rfl rfl ?_
    refine q_iret d_Mod_better_58 rfl ?_
    exact qn_ok (RI.adopt hQ1 hE1 n1 n2) (hF1.tr (fun c i q => n2 c i (by omega) (by omega))) (by rw [hd]; unfold sp_better; (repeat (first | rw [if_pos (by omega)] | rw [if_neg (by omega)])); (try rfl))
  have L : 0 ≤ n → n ≤ 100 → ∀ d, 0 ≤ d → d ≤ n → ∀ (σ1 : sto) (R : pln), RE σ1 g → AP σ1 186 0 g.P → RA σ1 R → PO g.ns g.nv R → AF g.D g.nv R → (btN g.D g.ns g.nv g.P n.toNat).1 = d + (btN g.D g.ns g.nv R (n - d).toNat).1 → (btN g.D g.ns g.nv g.P n.toNat).2 = (btN g.D g.ns g.nv R (n - d).toNat).2 → MF σ σ1 → Run M_Mod_better (rxI 14 (QM (sp_better g n) σ)) (0, 0) 35 [vR 169, vI n, vI d] [] (sg σ1) := by
    intro n0 n1
    refine up_ind (b := n) ?_ ?_
    · intro σ1 R hE1 hA1 hQ1 hP1 hAf hb1 hb2 hF1
      rw [show (n - n).toNat = 0 by omega] at hb1 hb2
      refine r_iload_n 2 d_Mod_better_35 rfl rfl ?_
      refine r_iload_n 1 d_Mod_better_36 rfl rfl ?_
      refine r_icmp_ge 53 d_Mod_better_37 rfl (by omega) (by omega) (fun h37 => ?_) (fun h37 => absurd h37 (by omega))
      exact k53 n σ1 n0 n1 hE1 hA1 (by rw [hb2]; exact hQ1) (by rw [hb1]; show n = n + 0; omega) hF1
    · intro d d0 d1 ihd σ1 R hE1 hA1 hQ1 hP1 hAf hb1 hb2 hF1
      rw [show (n - d).toNat = (n - (d + 1)).toNat + 1 by omega] at hb1 hb2
      rw [btN_s] at hb1 hb2
      refine r_iload_n 2 d_Mod_better_35 rfl rfl ?_
      refine r_iload_n 1 d_Mod_better_36 rfl rfl ?_
      refine r_icmp_ge 53 d_Mod_better_37 rfl (by omega) (by omega) (fun h37 => absurd h37 (by omega)) (fun h37 => ?_)
      refine r_aload_n 0 d_Mod_better_40 rfl rfl ?_
      refine r_cVI 8 d_Mod_better_41 lk_Mod_259 vc_Mod_isBettered (mt_isBettered hE1.1 k1 hQ1 hP1 hAf) rfl rfl rfl rfl ⟨Nat.le_of_ble_eq_true rfl, Nat.le_of_ble_eq_true rfl⟩ ⟨Nat.zero_le _, Nat.zero_le _⟩ (Nat.le_of_ble_eq_true rfl) (fun r41 s41 q41 => ?_)
      obtain ⟨b3, b2⟩ := q41
      have hE2 := b2.re hE1
      have hA2 := b2.ap hA1
      refine r_if_eq 53 d_Mod_better_44 rfl (by omega) (fun h44 => ?_) (fun h44 => ?_)
      · have b3 := b3.resolve_left (fun q => by omega)
        rw [if_neg b3.1] at hb1 hb2
        exact k53 d _ n0 n1 hE2 hA2 (by rw [hb2]; exact b3.2.2) (by rw [hb1]; show d = d + 0; omega) (hF1.tr b2.mf)
      · have b3 := b3.resolve_right (fun q => by omega)
        rw [if_pos b3.1] at hb1 hb2
        have hio := imp_ok k1 hP1 b3.1
        refine r_iinc 2 d_Mod_better_47 rfl (by decide) rfl ?_
        refine r_goto 35 d_Mod_better_50 rfl ?_
        exact ihd _ _ hE2 hA2 b3.2.2 hio.1 hio.2.1 (by rw [hb1]; show d + (_ + 1) = d + 1 + _; omega) hb2 (hF1.tr b2.mf)
  refine ci_of [vR 169, vI n, vU] fy_Mod_better.1 rfl (Nat.le_of_ble_eq_true rfl) ?_
  refine r_iload_n 1 d_Mod_better_0 rfl rfl ?_
  refine r_if_ge 11 d_Mod_better_1 rfl (by omega) (fun h1 => ?_) (fun h1 => ?_)
  · refine r_iload_n 1 d_Mod_better_11 rfl rfl ?_
    refine r_bipush d_Mod_better_12 (by decide) ?_
    refine r_icmp_le 24 d_Mod_better_14 rfl (by omega) (by omega) (fun h14 => ?_) (fun h14 => ?_)
    · refine r_aload_n 0 d_Mod_better_24 rfl rfl ?_
      refine r_aload_n 0 d_Mod_better_25 rfl rfl ?_
      refine r_getR 186 d_Mod_better_26 fk_Mod_58 rfl rfl rfl (by decide) ?_
      refine r_iconst d_Mod_better_29 ?_
      refine r_cVV 8 d_Mod_better_30 lk_Mod_231 vc_Mod_keeps (mt_keeps (n := 39) rfl rfl (Int.le_refl _) (by omega) (by omega) (by omega)) rfl rfl rfl rfl ⟨Nat.le_of_ble_eq_true rfl, Nat.le_of_ble_eq_true rfl⟩ ⟨Nat.zero_le _, Nat.zero_le _⟩ (Nat.le_of_ble_eq_true rfl) (fun s30 q30 => ?_)
      obtain ⟨t1, t2, t3⟩ := q30
      have hA1 : AP s30 186 0 g.P := AP.of hQ t1 t2
      have hQ1 := hQ.keep (σ' := s30) (fun c i q => t3 c i (by omega))
      have hE1 := hE.keep (σ' := s30) (fun c i q => t3 c i (by omega))
      refine r_iconst d_Mod_better_33 ?_
      refine r_istore_n 2 d_Mod_better_34 rfl (by decide) rfl ?_
      exact L (by omega) (by omega) 0 (by omega) (by omega) _ _ hE1 hA1 hQ1 k2 k3 (by rw [Int.sub_zero]; omega) (by rw [Int.sub_zero]) (fun c i q => t3 c i (by omega))
    · refine r_aload_n 0 d_Mod_better_17 rfl rfl ?_
      refine r_bipush d_Mod_better_18 (by decide) ?_
      refine r_cVI 8 d_Mod_better_20 lk_Mod_126 vc_Mod_no (mt_no (by omega)) rfl rfl rfl rfl ⟨Nat.le_of_ble_eq_true rfl, Nat.le_of_ble_eq_true rfl⟩ ⟨Nat.zero_le _, Nat.zero_le _⟩ (Nat.le_of_ble_eq_true rfl) (fun r20 s20 q20 => ?_)
      have q := q20
      refine q_iret d_Mod_better_23 rfl ?_
      exact qn_no hI MF.rf q (by unfold sp_better; (repeat (first | rw [if_pos (by omega)] | rw [if_neg (by omega)])); (try rfl))
  · refine r_aload_n 0 d_Mod_better_4 rfl rfl ?_
    refine r_bipush d_Mod_better_5 (by decide) ?_
    refine r_cVI 8 d_Mod_better_7 lk_Mod_126 vc_Mod_no (mt_no (by omega)) rfl rfl rfl rfl ⟨Nat.le_of_ble_eq_true rfl, Nat.le_of_ble_eq_true rfl⟩ ⟨Nat.zero_le _, Nat.zero_le _⟩ (Nat.le_of_ble_eq_true rfl) (fun r7 s7 q7 => ?_)
    have q := q7
    refine q_iret d_Mod_better_10 rfl ?_
    exact qn_no hI MF.rf q (by unfold sp_better; (repeat (first | rw [if_pos (by omega)] | rw [if_neg (by omega)])); (try rfl))
