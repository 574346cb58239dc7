-- THE REFERENCE: least (walk written by wip/whole/gen_rl3.py)
theorem WF9.re {σ σ' : sto} {g : G} (h : WF9 σ σ') (hE : RE σ g) : RE σ' g := hE.keep (fun c i q => h c i (by omega) (by omega) (by omega) (by omega) (by omega))
theorem WF9.mf {σ σ' : sto} (h : WF9 σ σ') : MF σ σ' := fun c i q => h c i (by omega) (by omega) (by omega) (by omega) (by omega)
theorem WF9.ap {σ σ' : sto} {o : Int} {P : pln} (h : WF9 σ σ') (hA : AP σ 186 o P) : AP σ' 186 o P := hA.keep (fun k _ _ => h 186 k (by omega) (by omega) (by omega) (by omega) (by omega))
/-- the plans that are looked at ahead of a place of the search -/
def SEEN (ns nv many d f : Int) (Q : pln) : Prop := Q = (fun _ => []) ∨ ∃ m e k : Int, 1 ≤ m ∧ m ≤ ns ∧ 0 ≤ e ∧ e < ns ^ m.toNat ∧ 0 ≤ k ∧ k ≤ m ∧ (nv = 1 → k = m) ∧ Q = plD ns e m k ∧ (m < many ∨ m = many ∧ (e < d ∨ e = d ∧ k < f))
theorem pl_al3 {b d n f : Int} : al3 (plD b d n f) = dl b d n := by
  show (dl b d n).take f.toNat ++ ((dl b d n).drop f.toNat ++ []) = _
  rw [List.append_nil, List.take_append_drop]
theorem pl_no {nv b d n f : Int} (n0 : 0 ≤ n) (h1 : 1 ≤ nv) (hf : nv = 1 → f = n) : ∀ u, (u < 0 ∨ nv ≤ u) → plD b d n f u = [] := by
  intro u hu
  unfold plD
  rw [if_neg (by omega)]
  by_cases e : u = 1
  · rw [if_pos e, hf (by omega)]
    have hl : ln (dl b d n) = n := ln_mk n0
    exact List.drop_eq_nil_of_le (by unfold ln at hl; omega)
  · rw [if_neg e]
theorem pl_po {ns nv d n f : Int} (hn : 0 < ns) (n0 : 0 ≤ n) (h1 : 1 ≤ nv) (hf : nv = 1 → f = n) (h : (dl ns d n).Nodup) : PO ns nv (plD ns d n f) := by
  refine ⟨by rw [pl_al3]; exact h, fun s hs => ?_, fun v q1 q2 q3 => pl_no n0 h1 hf v (Or.inr q1)⟩
  rw [pl_al3] at hs
  obtain ⟨i, i0, i1, i2⟩ := mem_gt.mp hs
  have hl : ln (dl ns d n) = n := ln_mk n0
  have e : gt (dl ns d n) i = dgs ns d i := gt_mk i0 (by omega)
  rw [← i2, e]
  exact dgs_in hn i
theorem seen_all {D : sto} {ns nv : Int} {Q : pln} (h0 : 0 ≤ ns) (h1 : 1 ≤ nv) (h2 : nv ≤ 2) (hV : VV D ns nv Q) : SEEN ns nv (ns + 1) 0 0 Q := by
  obtain ⟨hP, -, hu⟩ := hV
  have e2 : Q 2 = [] := hu 2 (Or.inr h2)
  have ea : al3 Q = Q 0 ++ Q 1 := by unfold al3; rw [e2, List.append_nil]
  have hel : ∀ x ∈ Q 0 ++ Q 1, 0 ≤ x ∧ x < ns := fun x hx => hP.2.1 x (by rw [ea]; exact hx)
  have hsz := hP.size h0
  have hln : ln (Q 0 ++ Q 1) = szP Q := by rw [← ea]; exact len_al3 Q
  have l0 := ln0 (Q 0)
  have l1 := ln0 (Q 1)
  have hla : ln (Q 0 ++ Q 1) = ln (Q 0) + ln (Q 1) := ln_app
  by_cases hz : ln (Q 0 ++ Q 1) = 0
  · left
    have z0 : Q 0 = [] := List.eq_nil_of_length_eq_zero (by unfold ln at *; omega)
    have z1 : Q 1 = [] := List.eq_nil_of_length_eq_zero (by unfold ln at *; omega)
    funext u
    by_cases e : u = 0
    · rw [e]; exact z0
    · by_cases e1 : u = 1
      · rw [e1]; exact z1
      · exact hu u (by omega)
  · right
    have he := enc_in (b := ns) (Q 0 ++ Q 1) hel
    have hd := dl_enc (b := ns) (Q 0 ++ Q 1) hel
    refine ⟨ln (Q 0 ++ Q 1), encB ns (Q 0 ++ Q 1), ln (Q 0), by have := ln0 (Q 0 ++ Q 1); omega, by omega, he.1, he.2, l0, by omega, fun q => ?_, ?_, Or.inl (by omega)⟩
    · have e1 : Q 1 = [] := hu 1 (Or.inr (by omega))
      rw [e1, List.append_nil]
    · funext u
      unfold plD
      rw [hd]
      by_cases e : u = 0
      · rw [if_pos e, e]
        show Q 0 = (Q 0 ++ Q 1).take (Q 0).length
        rw [List.take_append_of_le_length (Nat.le_refl _), List.take_length]
      · rw [if_neg e]
        by_cases e1 : u = 1
        · rw [if_pos e1, e1]
          show Q 1 = (Q 0 ++ Q 1).drop (Q 0).length
          rw [List.drop_append_of_le_length (Nat.le_refl _), List.drop_length, List.nil_append]
        · rw [if_neg e1]; exact hu u (by omega)
theorem seen_none {D : sto} {ns : Int} {Q : pln} (hV : VV D ns 0 Q) : Q = (fun _ => []) := by
  funext u; exact hV.2.2 u (by omega)
/-- what stands in the search -/
def LQ (σ : sto) (g : G) (σ1 : sto) : Prop := RE σ1 g ∧ AP σ1 186 0 g.P ∧ MF σ σ1 ∧ σ1 184 2 = 0 ∧ (g.nv = 1 → σ1 184 1 = 0)
theorem WF9.lq {σ σ1 σ2 : sto} {g : G} (h : WF9 σ1 σ2) (hL : LQ σ g σ1) : LQ σ g σ2 := ⟨h.re hL.1, h.ap hL.2.1, hL.2.2.1.tr h.mf, by rw [h 184 2 (by omega) (by omega) (by omega) (by omega) (by omega)]; exact hL.2.2.2.1, fun q => by rw [h 184 1 (by omega) (by omega) (by omega) (by omega) (by omega)]; exact hL.2.2.2.2 q⟩
theorem cr_least {σ : sto} {g : G} (hI : RI σ g) (hk : g.ok) : CI M_Mod_least 14 [vR 169] σ (QM (sp_least g) σ) := by
  obtain ⟨hQ, hE⟩ := id hI
  obtain ⟨hC, hU, h45, hrow, h33, hrf⟩ := id hE
  obtain ⟨k1, k2, k3, k4, k5, k6⟩ := id hk
  have hn := k1.1
  have hRV := k2.rv hn.1 hn.2.1
  have k143 : g.ns ≤ 5 → g.nv ≤ 2 → ∀ (σ1 : sto) (S : pln → Prop), LQ σ g σ1 → BM g.D g.ns g.nv σ1 S → (∀ Q, VV g.D g.ns g.nv Q → S Q) → ∀ x : Int, Run M_Mod_least (rxI 14 (QM (sp_least g) σ)) (0, 0) 143 [vR 169, vI x, vU, vU] [] (sg σ1) := by
    intro h5 h2 σ1 S hL hB hS x
    obtain ⟨hE1, hA1, hF1, -, -⟩ := hL
    obtain ⟨e42, B, hVB, hAB, e39, e40, e41, hbest⟩ := hB.resolve_left (fun q => q.2 _ VV.nil (hS _ VV.nil))
    have hLST : LST g.D g.ns g.nv B := ⟨hVB, fun Q q => hbest Q q (hS Q q)⟩
    have el := lst_eq k1 hLST
    refine r_aload_n 0 d_Mod_least_143 rfl rfl ?_
    refine r_aload_n 0 d_Mod_least_144 rfl rfl ?_
    refine r_getR 187 d_Mod_least_145 fk_Mod_61 rfl rfl rfl (by decide) ?_
    refine r_iconst d_Mod_least_148 ?_
    refine r_cVV 8 d_Mod_least_149 lk_Mod_217 vc_Mod_takes (mt_takes (n := 39) rfl rfl (Int.le_refl _) (by omega) (by omega) (by omega)) rfl rfl rfl rfl ⟨Nat.le_of_ble_eq_true rfl, Nat.le_of_ble_eq_true rfl⟩ ⟨Nat.zero_le _, Nat.zero_le _⟩ (Nat.le_of_ble_eq_true rfl) (fun s149 q149 => ?_)
    obtain ⟨t1, t2, t3⟩ := q149
    have hQ2 : RA s149 B := hAB.to t1 t2
    have hE2 := hE1.keep (σ' := s149) (fun c i q => t3 c i (by omega) (by omega))
    have hA2 : AP s149 186 0 g.P := hA1.keep (fun k _ _ => t3 186 k (by omega) (by omega))
    refine r_aload_n 0 d_Mod_least_152 rfl rfl ?_
    refine r_cVV 8 d_Mod_least_153 lk_Mod_221 vc_Mod_notes (mt_notes hQ2 hA2 hE2.2.1) rfl rfl rfl rfl ⟨Nat.le_of_ble_eq_true rfl, Nat.le_of_ble_eq_true rfl⟩ ⟨Nat.zero_le _, Nat.zero_le _⟩ (Nat.le_of_ble_eq_true rfl) (fun s153 q153 => ?_)
    obtain ⟨n1, n2⟩ := q153
    refine r_aload_n 0 d_Mod_least_156 rfl rfl ?_
    refine r_getI 40 d_Mod_least_157 fk_Mod_269 rfl rfl rfl ?_
    rw [n2 169 40 (by omega) (by omega), t3 169 40 (by omega) (by omega), e40]
    refine q_iret d_Mod_least_160 rfl ?_
    exact qn_ok (RI.adopt hQ2 hE2 n1 n2) ((hF1.tr (fun c i q => t3 c i (by omega) (by omega))).tr (fun c i q => n2 c i (by omega) (by omega))) (by rw [← el]; unfold sp_least; (repeat (first | rw [if_pos (by omega)] | rw [if_neg (by omega)])); (try rfl))
  have LM : g.ns ≤ 5 → g.nv ≤ 2 → ∀ many, 1 ≤ many → many ≤ g.ns + 1 → ∀ σ1 : sto, LQ σ g σ1 → BM g.D g.ns g.nv σ1 (SEEN g.ns g.nv many 0 0) → Run M_Mod_least (rxI 14 (QM (sp_least g) σ)) (0, 0) 63 [vR 169, vI many, vU, vU] [] (sg σ1) := by
    intro h5 h2
    by_cases hnv : g.nv = 0
    · intro many m0 m1 σ1 hL hB
      have h13 := hL.1.1.1
      have h14 := hL.1.1.2.1
      have hfin := k143 h5 h2 σ1 _ hL hB (fun Q q => Or.inl (by rw [hnv] at q; exact seen_none q)) many
      refine r_iload_n 1 d_Mod_least_63 rfl rfl ?_
      refine r_aload_n 0 d_Mod_least_64 rfl rfl ?_
      refine r_getI 13 d_Mod_least_65 fk_Mod_102 rfl rfl rfl ?_
      rw [h13]
      refine r_icmp_gt 143 d_Mod_least_68 rfl (by omega) (by omega) (fun h68 => ?_) (fun h68 => ?_)
      · exact hfin
      · refine r_aload_n 0 d_Mod_least_71 rfl rfl ?_
        refine r_getI 14 d_Mod_least_72 fk_Mod_105 rfl rfl rfl ?_
        rw [h14]
        refine r_if_le 143 d_Mod_least_75 rfl (by omega) (fun h75 => ?_) (fun h75 => absurd h75 (by omega))
        exact hfin
    · refine up_ind (b := g.ns + 1) ?_ ?_
      · intro σ1 hL hB
        have h13 := hL.1.1.1
        refine r_iload_n 1 d_Mod_least_63 rfl rfl ?_
        refine r_aload_n 0 d_Mod_least_64 rfl rfl ?_
        refine r_getI 13 d_Mod_least_65 fk_Mod_102 rfl rfl rfl ?_
        rw [h13]
        refine r_icmp_gt 143 d_Mod_least_68 rfl (by omega) (by omega) (fun h68 => ?_) (fun h68 => absurd h68 (by omega))
        exact k143 h5 h2 σ1 _ hL hB (fun Q q => seen_all hn.1 (by omega) h2 q) _
      · intro many m0 m1 ihm σ1 hL hB
        have hpw := pow_in hn.1 h5 (show 0 ≤ many by omega) (show many ≤ 5 by omega)
        have LD : ∀ d, 0 ≤ d → d ≤ g.ns ^ many.toNat → ∀ σ2 : sto, LQ σ g σ2 → BM g.D g.ns g.nv σ2 (SEEN g.ns g.nv many d 0) → Run M_Mod_least (rxI 14 (QM (sp_least g) σ)) (0, 0) 80 [vR 169, vI many, vI d, vU] [] (sg σ2) := by
          refine up_ind (b := g.ns ^ many.toNat) ?_ ?_
          · intro σ2 hL2 hB2
            have h13 := hL2.1.1.1
            refine r_iload_n 2 d_Mod_least_80 rfl rfl ?_
            refine r_aload_n 0 d_Mod_least_81 rfl rfl ?_
            refine r_getI 13 d_Mod_least_82 fk_Mod_102 rfl rfl rfl ?_
            rw [h13]
            refine r_iload_n 1 d_Mod_least_85 rfl rfl ?_
            refine r_cSP d_Mod_least_86 lk_Mod_281 sc_Mod_power (mt_power (by omega) (by omega)) rfl rfl ⟨Nat.le_of_ble_eq_true rfl, Nat.le_of_ble_eq_true rfl⟩ ⟨Nat.zero_le _, Nat.zero_le _⟩ (Nat.le_of_ble_eq_true rfl) ?_
            refine r_icmp_ge 137 d_Mod_least_89 rfl (by omega) (by omega) (fun h89 => ?_) (fun h89 => absurd h89 (by omega))
            refine r_iinc 1 d_Mod_least_137 rfl (by decide) rfl ?_
            refine r_goto 63 d_Mod_least_140 rfl ?_
            refine r_drop 2 (ihm σ2 hL2 (hB2.mono (fun Q q z => by rcases z with z | ⟨m, e, k, z1, z2, z3, z4, z5, z6, z7, z8, z9⟩; (exact Or.inl z); (exact Or.inr ⟨m, e, k, z1, z2, z3, z4, z5, z6, z7, z8, by rcases z9 with z9 | ⟨z9, z10⟩; (by_cases y : m = many; (exact Or.inr ⟨y, Or.inl (by rw [y] at z4; exact z4)⟩); (exact Or.inl (by omega))); (exact absurd z10 (by omega))⟩))))
          · intro d d0 d1 ihd σ2 hL2 hB2
            have h13 := hL2.1.1.1
            have h14 := hL2.1.1.2.1
            have LF : ∀ f, (if g.nv = 1 then many else 0) ≤ f → f ≤ many + 1 → ∀ σ3 : sto, LQ σ g σ3 → BM g.D g.ns g.nv σ3 (SEEN g.ns g.nv many d f) → Run M_Mod_least (rxI 14 (QM (sp_least g) σ)) (0, 0) 106 [vR 169, vI many, vI d, vI f] [] (sg σ3) := by
              refine up_ind (b := many + 1) ?_ ?_
              · intro σ3 hL3 hB3
                refine r_iload_n 3 d_Mod_least_106 rfl rfl ?_
                refine r_iload_n 1 d_Mod_least_107 rfl rfl ?_
                refine r_icmp_gt 131 d_Mod_least_108 rfl (by omega) (by omega) (fun h108 => ?_) (fun h108 => absurd h108 (by omega))
                refine r_iinc 2 d_Mod_least_131 rfl (by decide) rfl ?_
                refine r_goto 80 d_Mod_least_134 rfl ?_
                refine r_drop 3 (ihd σ3 hL3 (hB3.mono (fun Q q z => by rcases z with z | ⟨m, e, k, z1, z2, z3, z4, z5, z6, z7, z8, z9⟩; (exact Or.inl z); (exact Or.inr ⟨m, e, k, z1, z2, z3, z4, z5, z6, z7, z8, by omega⟩))))
              · intro f f0 f1 ihf σ3 hL3 hB3
                have hf0 : 0 ≤ f ∧ (g.nv = 1 → f = many) := by split at f0 <;> omega
                have k125 : ∀ σ4 : sto, LQ σ g σ4 → BM g.D g.ns g.nv σ4 (fun Q => SEEN g.ns g.nv many d f Q ∨ Q = plD g.ns d many f) → Run M_Mod_least (rxI 14 (QM (sp_least g) σ)) (0, 0) 125 [vR 169, vI many, vI d, vI f] [] (sg σ4) := by
                  intro σ4 hL4 hB4
                  refine r_iinc 3 d_Mod_least_125 rfl (by decide) rfl ?_
                  refine r_goto 106 d_Mod_least_128 rfl ?_
                  refine ihf σ4 hL4 (hB4.mono (fun Q q z => ?_))
                  rcases z with z | ⟨m, e, k, z1, z2, z3, z4, z5, z6, z7, z8, z9⟩
                  · exact Or.inl (Or.inl z)
                  · by_cases y : m = many ∧ e = d ∧ k = f
                    · rw [y.1, y.2.1, y.2.2] at z8; exact Or.inr z8
                    · exact Or.inl (Or.inr ⟨m, e, k, z1, z2, z3, z4, z5, z6, z7, z8, by omega⟩)
                refine r_iload_n 3 d_Mod_least_106 rfl rfl ?_
                refine r_iload_n 1 d_Mod_least_107 rfl rfl ?_
                refine r_icmp_gt 131 d_Mod_least_108 rfl (by omega) (by omega) (fun h108 => absurd h108 (by omega)) (fun h108 => ?_)
                refine r_aload_n 0 d_Mod_least_111 rfl rfl ?_
                refine r_iload_n 2 d_Mod_least_112 rfl rfl ?_
                refine r_iload_n 1 d_Mod_least_113 rfl rfl ?_
                refine r_iload_n 3 d_Mod_least_114 rfl rfl ?_
                refine r_cVI 8 d_Mod_least_115 lk_Mod_285 vc_Mod_lays (mt_lays hL3.1.1 (by omega) d0 (by omega) m0 (by omega) hf0.1 (by omega) hf0.2 hL3.2.2.2.1 hL3.2.2.2.2) rfl rfl rfl rfl ⟨Nat.le_of_ble_eq_true rfl, Nat.le_of_ble_eq_true rfl⟩ ⟨Nat.zero_le _, Nat.zero_le _⟩ (Nat.le_of_ble_eq_true rfl) (fun r115 s115 q115 => ?_)
                obtain ⟨qa, lF⟩ := q115
                have hL4 : LQ σ g s115 := ⟨hL3.1.keep (fun c i q => lF c i (by omega) (by omega)), hL3.2.1.keep (fun k _ _ => lF 186 k (by omega) (by omega)), hL3.2.2.1.tr (fun c i q => lF c i (by omega) (by omega)), by rw [lF 184 2 (by omega) (by omega)]; exact hL3.2.2.2.1, fun q => by rw [lF 184 1 (by omega) (by omega)]; exact hL3.2.2.2.2 q⟩
                have hB4 := hB3.keep (σ' := s115) (fun c i q => lF c i (by omega) (by omega))
                refine r_if_eq 125 d_Mod_least_118 rfl (by omega) (fun h118 => ?_) (fun h118 => ?_)
                · have qb := (qa.resolve_left (fun q => by omega)).2
                  first
                    | exact k125 _ (hW.lq hL4) hB5
                    | (refine k125 _ hL4 (hB4.mono (fun Q q z => ?_))
                       rcases z with z | z
                       · exact z
                       · have := q.1.1; rw [z, pl_al3] at this; exact absurd this qb)
                · have qb := qa.resolve_right (fun q => h118 q.1)
                  refine r_aload_n 0 d_Mod_least_121 rfl rfl ?_
                  refine r_cVV 8 d_Mod_least_122 lk_Mod_278 vc_Mod_weighs (mt_weighs hL4.1.1 k1 qb.2.2 (pl_po (by omega) (by omega) (by omega) hf0.2 qb.2.1) (pl_no (by omega) (by omega) hf0.2) hB4) rfl rfl rfl rfl ⟨Nat.le_of_ble_eq_true rfl, Nat.le_of_ble_eq_true rfl⟩ ⟨Nat.zero_le _, Nat.zero_le _⟩ (Nat.le_of_ble_eq_true rfl) (fun s122 q122 => ?_)
                  obtain ⟨hB5, hW⟩ := q122
                  first
                    | exact k125 _ (hW.lq hL4) hB5
                    | (refine k125 _ hL4 (hB4.mono (fun Q q z => ?_))
                       rcases z with z | z
                       · exact z
                       · have := q.1.1; rw [z, pl_al3] at this; exact absurd this qb)
            refine r_iload_n 2 d_Mod_least_80 rfl rfl ?_
            refine r_aload_n 0 d_Mod_least_81 rfl rfl ?_
            refine r_getI 13 d_Mod_least_82 fk_Mod_102 rfl rfl rfl ?_
            rw [h13]
            refine r_iload_n 1 d_Mod_least_85 rfl rfl ?_
            refine r_cSP d_Mod_least_86 lk_Mod_281 sc_Mod_power (mt_power (by omega) (by omega)) rfl rfl ⟨Nat.le_of_ble_eq_true rfl, Nat.le_of_ble_eq_true rfl⟩ ⟨Nat.zero_le _, Nat.zero_le _⟩ (Nat.le_of_ble_eq_true rfl) ?_
            refine r_icmp_ge 137 d_Mod_least_89 rfl (by omega) (by omega) (fun h89 => absurd h89 (by omega)) (fun h89 => ?_)
            refine r_aload_n 0 d_Mod_least_92 rfl rfl ?_
            refine r_getI 14 d_Mod_least_93 fk_Mod_105 rfl rfl rfl ?_
            rw [h14]
            refine r_iconst d_Mod_least_96 ?_
            refine r_icmp_ne 104 d_Mod_least_97 rfl (by omega) (by omega) (fun h97 => ?_) (fun h97 => ?_)
            · refine r_iconst d_Mod_least_104 ?_
              refine r_istore_n 3 d_Mod_least_105 rfl (by decide) rfl ?_
              first
                | (refine LF many (by split <;> omega) (by omega) σ2 hL2 (hB2.mono (fun Q q z => by rcases z with z | ⟨m, e, k, z1, z2, z3, z4, z5, z6, z7, z8, z9⟩; (exact Or.inl z); (exact Or.inr ⟨m, e, k, z1, z2, z3, z4, z5, z6, z7, z8, by have := z7 (by omega); omega⟩))))
                | exact LF 0 (by rw [if_neg (by omega)]; exact Int.le_refl _) (by omega) σ2 hL2 hB2
            · refine r_iload_n 1 d_Mod_least_100 rfl rfl ?_
              refine r_goto 105 d_Mod_least_101 rfl ?_
              refine r_istore_n 3 d_Mod_least_105 rfl (by decide) rfl ?_
              first
                | (refine LF many (by split <;> omega) (by omega) σ2 hL2 (hB2.mono (fun Q q z => by rcases z with z | ⟨m, e, k, z1, z2, z3, z4, z5, z6, z7, z8, z9⟩; (exact Or.inl z); (exact Or.inr ⟨m, e, k, z1, z2, z3, z4, z5, z6, z7, z8, by have := z7 (by omega); omega⟩))))
                | exact LF 0 (by rw [if_neg (by omega)]; exact Int.le_refl _) (by omega) σ2 hL2 hB2
        have h13 := hL.1.1.1
        have h14 := hL.1.1.2.1
        refine r_iload_n 1 d_Mod_least_63 rfl rfl ?_
        refine r_aload_n 0 d_Mod_least_64 rfl rfl ?_
        refine r_getI 13 d_Mod_least_65 fk_Mod_102 rfl rfl rfl ?_
        rw [h13]
        refine r_icmp_gt 143 d_Mod_least_68 rfl (by omega) (by omega) (fun h68 => absurd h68 (by omega)) (fun h68 => ?_)
        refine r_aload_n 0 d_Mod_least_71 rfl rfl ?_
        refine r_getI 14 d_Mod_least_72 fk_Mod_105 rfl rfl rfl ?_
        rw [h14]
        refine r_if_le 143 d_Mod_least_75 rfl (by omega) (fun h75 => absurd h75 (by omega)) (fun h75 => ?_)
        refine r_iconst d_Mod_least_78 ?_
        refine r_istore_n 2 d_Mod_least_79 rfl (by decide) rfl ?_
        exact LD 0 (by omega) (by omega) σ1 hL hB
  have LZ : g.ns ≤ 5 → g.nv ≤ 2 → ∀ k, 0 ≤ k → k ≤ 3 → ∀ σ1 : sto, RE σ1 g → AP σ1 186 0 g.P → MF σ σ1 → σ1 169 42 = 0 → (∀ j, 0 ≤ j → j < k → σ1 184 j = 0) → Run M_Mod_least (rxI 14 (QM (sp_least g) σ)) (0, 0) 39 [vR 169, vI k, vU, vU] [] (sg σ1) := by
    intro h5 h2
    refine up_ind (b := 3) ?_ ?_
    · intro σ1 hE1 hA1 hF1 h42 hz
      have hQ1 : RA σ1 (fun _ => []) := fun v v0 v1 => ⟨hz v v0 v1, by show (0 : Int) ≤ 12; decide, fun i i0 i1 => (by have : i < 0 := i1; omega)⟩
      have hL1 : LQ σ g σ1 := ⟨hE1, hA1, hF1, hz 2 (by omega) (by omega), fun _ => hz 1 (by omega) (by omega)⟩
      have hB1 : BM g.D g.ns g.nv σ1 (fun _ => False) := Or.inl ⟨h42, fun _ _ q => q⟩
      refine r_iload_n 1 d_Mod_least_39 rfl rfl ?_
      refine r_iconst d_Mod_least_40 ?_
      refine r_icmp_ge 57 d_Mod_least_41 rfl (by omega) (by omega) (fun h41 => ?_) (fun h41 => absurd h41 (by omega))
      refine r_aload_n 0 d_Mod_least_57 rfl rfl ?_
      refine r_cVV 8 d_Mod_least_58 lk_Mod_278 vc_Mod_weighs (mt_weighs hE1.1 k1 hQ1 (VV.nil (D := g.D)).1 (fun _ _ => rfl) hB1) rfl rfl rfl rfl ⟨Nat.le_of_ble_eq_true rfl, Nat.le_of_ble_eq_true rfl⟩ ⟨Nat.zero_le _, Nat.zero_le _⟩ (Nat.le_of_ble_eq_true rfl) (fun s58 q58 => ?_)
      obtain ⟨hB2, hW⟩ := q58
      refine r_iconst d_Mod_least_61 ?_
      refine r_istore_n 1 d_Mod_least_62 rfl (by decide) rfl ?_
      refine LM h5 h2 1 (by omega) (by omega) _ (hW.lq hL1) (hB2.mono (fun Q q z => ?_))
      rcases z with z | ⟨m, e, k, z1, z2, z3, z4, z5, z6, z7, z8, z9⟩
      · exact Or.inr z
      · exfalso; omega
    · intro k k0 kk ih σ1 hE1 hA1 hF1 h42 hz
      refine r_iload_n 1 d_Mod_least_39 rfl rfl ?_
      refine r_iconst d_Mod_least_40 ?_
      refine r_icmp_ge 57 d_Mod_least_41 rfl (by omega) (by omega) (fun h41 => absurd h41 (by omega)) (fun h41 => ?_)
      refine r_aload_n 0 d_Mod_least_44 rfl rfl ?_
      refine r_getR 184 d_Mod_least_45 fk_Mod_52 rfl rfl rfl (by decide) ?_
      refine r_iload_n 1 d_Mod_least_48 rfl rfl ?_
      refine r_iconst d_Mod_least_49 ?_
      refine r_iast 3 d_Mod_least_50 rfl rfl (by omega) (by omega) ?_
      refine r_iinc 1 d_Mod_least_51 rfl (by decide) rfl ?_
      refine r_goto 39 d_Mod_least_54 rfl ?_
      refine ih _ (hE1.keep (fun c i q => wr_ne (by omega))) (hA1.keep (fun k _ _ => wr_ne (by omega))) (hF1.tr (fun c i q => wr_ne (by omega))) (by rw [wr_ne (by omega)]; exact h42) (fun j j0 j1 => ?_)
      by_cases e : j = k
      · rw [e, wr_eq]
      · rw [wr_ne (by omega)]; exact hz j j0 (by omega)
  refine ci_of [vR 169, vU, vU, vU] fy_Mod_least.1 rfl (Nat.le_of_ble_eq_true rfl) ?_
  refine r_aload_n 0 d_Mod_least_0 rfl rfl ?_
  refine r_getI 13 d_Mod_least_1 fk_Mod_102 rfl rfl rfl ?_
  rw [hC.1]
  refine r_iconst d_Mod_least_4 ?_
  refine r_icmp_gt 16 d_Mod_least_5 rfl (by omega) (by omega) (fun h5 => ?_) (fun h5 => ?_)
  · refine r_aload_n 0 d_Mod_least_16 rfl rfl ?_
    refine r_bipush d_Mod_least_17 (by decide) ?_
    refine r_cVI 8 d_Mod_least_19 lk_Mod_126 vc_Mod_no (mt_no (by omega)) rfl rfl rfl rfl ⟨Nat.le_of_ble_eq_true rfl, Nat.le_of_ble_eq_true rfl⟩ ⟨Nat.zero_le _, Nat.zero_le _⟩ (Nat.le_of_ble_eq_true rfl) (fun r19 s19 q19 => ?_)
    have q := q19
    refine q_iret d_Mod_least_22 rfl ?_
    exact qn_no hI MF.rf q (by unfold sp_least; (repeat (first | rw [if_pos (by omega)] | rw [if_neg (by omega)])); (try rfl))
  · refine r_aload_n 0 d_Mod_least_8 rfl rfl ?_
    refine r_getI 14 d_Mod_least_9 fk_Mod_105 rfl rfl rfl ?_
    rw [hC.2.1]
    refine r_iconst d_Mod_least_12 ?_
    refine r_icmp_le 23 d_Mod_least_13 rfl (by omega) (by omega) (fun h13 => ?_) (fun h13 => ?_)
    · refine r_aload_n 0 d_Mod_least_23 rfl rfl ?_
      refine r_aload_n 0 d_Mod_least_24 rfl rfl ?_
      refine r_getR 186 d_Mod_least_25 fk_Mod_58 rfl rfl rfl (by decide) ?_
      refine r_iconst d_Mod_least_28 ?_
      refine r_cVV 8 d_Mod_least_29 lk_Mod_231 vc_Mod_keeps (mt_keeps (n := 39) rfl rfl (Int.le_refl _) (by omega) (by omega) (by omega)) rfl rfl rfl rfl ⟨Nat.le_of_ble_eq_true rfl, Nat.le_of_ble_eq_true rfl⟩ ⟨Nat.zero_le _, Nat.zero_le _⟩ (Nat.le_of_ble_eq_true rfl) (fun s29 q29 => ?_)
      obtain ⟨t1, t2, t3⟩ := q29
      have hA1 : AP s29 186 0 g.P := AP.of hQ t1 t2
      have hE1 := hE.keep (σ' := s29) (fun c i q => t3 c i (by omega))
      refine r_aload_n 0 d_Mod_least_32 rfl rfl ?_
      refine r_iconst d_Mod_least_33 ?_
      refine r_putI 42 d_Mod_least_34 fk_Mod_262 rfl rfl rfl (Or.inr ⟨rfl, (by omega)⟩) ?_
      refine r_iconst d_Mod_least_37 ?_
      refine r_istore_n 1 d_Mod_least_38 rfl (by decide) rfl ?_
      exact LZ (by omega) (by omega) 0 (by omega) (by omega) _ (hE1.keep (fun c i q => wr_ne (by omega))) (hA1.keep (fun k _ _ => wr_ne (by omega))) (fun c i q => by rw [wr_ne (by omega)]; exact t3 c i (by omega)) wr_eq (fun j j0 j1 => by omega)
    · refine r_aload_n 0 d_Mod_least_16 rfl rfl ?_
      refine r_bipush d_Mod_least_17 (by decide) ?_
      refine r_cVI 8 d_Mod_least_19 lk_Mod_126 vc_Mod_no (mt_no (by omega)) rfl rfl rfl rfl ⟨Nat.le_of_ble_eq_true rfl, Nat.le_of_ble_eq_true rfl⟩ ⟨Nat.zero_le _, Nat.zero_le _⟩ (Nat.le_of_ble_eq_true rfl) (fun r19 s19 q19 => ?_)
      have q := q19
      refine q_iret d_Mod_least_22 rfl ?_
      exact qn_no hI MF.rf q (by unfold sp_least; (repeat (first | rw [if_pos (by omega)] | rw [if_neg (by omega)])); (try rfl))
