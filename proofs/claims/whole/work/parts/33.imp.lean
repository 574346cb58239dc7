-- BETTER: the first move by which cost falls (walks written by wip/whole/gen_imp.py)
noncomputable def mvd (P : pln) (s v i : Int) : pln := up (rmv1 P s) v (insA (rmv1 P s v) i s)
def mok (D : sto) (nv : Int) (P : pln) (s v i : Int) : Prop := AF D nv (mvd P s v i) ∧ tot D nv (mvd P s v i) < tot D nv P
noncomputable def mokb (D : sto) (nv : Int) (P : pln) (s v i : Int) : Bool := @decide (mok D nv P s v i) (Classical.propDecidable _)
theorem mokb_t {D : sto} {nv : Int} {P : pln} {s v i : Int} (h : mok D nv P s v i) : mokb D nv P s v i = true := by
  unfold mokb; exact @decide_eq_true _ (Classical.propDecidable _) h
theorem mokb_f {D : sto} {nv : Int} {P : pln} {s v i : Int} (h : ¬ mok D nv P s v i) : mokb D nv P s v i = false := by
  unfold mokb; exact @decide_eq_false _ (Classical.propDecidable _) h
theorem mokb_is {D : sto} {nv : Int} {P : pln} {s v i : Int} (h : mokb D nv P s v i = true) : mok D nv P s v i := by
  unfold mokb at h; exact @of_decide_eq_true _ (Classical.propDecidable _) h
noncomputable def mvi (D : sto) (nv : Int) (P : pln) (s v : Int) : Int := fst1 (mokb D nv P s v) (ln (rmv1 P s v) + 1)
noncomputable def mvv (D : sto) (nv : Int) (P : pln) (s : Int) : Int := fst1 (fun v => decide (mvi D nv P s v < ln (rmv1 P s v) + 1)) nv
noncomputable def mvs (D : sto) (ns nv : Int) (P : pln) : Int := fst1 (fun s => decide (vanOf P s ≠ -1 ∧ mvv D nv P s < nv)) ns
noncomputable def mvp (D : sto) (nv : Int) (P : pln) (s : Int) : pln := mvd P s (mvv D nv P s) (mvi D nv P s (mvv D nv P s))
noncomputable def imp (D : sto) (ns nv : Int) (P : pln) : pln := mvp D nv P (mvs D ns nv P)
theorem totN_up {D : sto} {P : pln} {v : Int} {l : List Int} (v0 : 0 ≤ v) : ∀ n : Nat, totN D (up P v l) n = totN D P n + (if v < n then cst D v l - cst D v (P v) else 0) := by
  intro n
  induction n with
  | zero => rw [if_neg (by omega)]; show (0 : Int) = 0 + 0; rfl
  | succ n ih =>
    show totN D (up P v l) n + cst D n (up P v l n) = totN D P n + cst D n (P n) + _
    rw [ih]
    by_cases e : v = n
    · rw [if_neg (by omega), if_pos (by omega), ← e, up_eq]; omega
    · rw [up_ne (by omega)]
      by_cases q : v < n
      · rw [if_pos q, if_pos (by omega)]; omega
      · rw [if_neg q, if_neg (by omega)]; omega
theorem tot_up {D : sto} {nv : Int} {P : pln} {v : Int} {l : List Int} (v0 : 0 ≤ v) (v1 : v < nv) : tot D nv (up P v l) = tot D nv P + (cst D v l - cst D v (P v)) := by
  unfold tot
  rw [totN_up v0, if_pos (by omega)]
theorem AF_up {D : sto} {nv : Int} {P : pln} {v : Int} {l : List Int} (v0 : 0 ≤ v) (v1 : v < nv) (hA : AF D nv P) : AF D nv (up P v l) ↔ whyOf D v l = 0 := by
  constructor
  · intro h; have := h v v0 v1; rw [up_eq] at this; exact this
  · intro h u u0 u1
    by_cases e : u = v
    · rw [e, up_eq]; exact h
    · rw [up_ne e]; exact hA u u0 u1
theorem rmv1_eq {P : pln} {s h : Int} (hh : vanOf P s = h) (hne : h ≠ -1) : rmv1 P s = up P h (delA (P h) (plcOf P s)) := by
  unfold rmv1
  rw [hh, if_neg hne]
section mok
variable {D : sto} {nv : Int} {P : pln} {s h v i : Int}
theorem mok_home (hA : AF D nv P) (hh : vanOf P s = h) (hne : h ≠ -1) (v0 : 0 ≤ h) (v1 : h < nv) : mok D nv P s h i ↔ whyOf D h (insA (rmv1 P s h) i s) = 0 ∧ cst D h (insA (rmv1 P s h) i s) < cst D h (P h) := by
  unfold mok mvd
  rw [rmv1_eq hh hne, up_up, up_eq, AF_up v0 v1 hA, tot_up v0 v1]
  constructor <;> intro q <;> exact ⟨q.1, by omega⟩
theorem mok_away (hA : AF D nv P) (hh : vanOf P s = h) (hne : h ≠ -1) (v0 : 0 ≤ h) (v1 : h < nv) (u0 : 0 ≤ v) (u1 : v < nv) (e : v ≠ h) : mok D nv P s v i ↔ whyOf D h (rmv1 P s h) = 0 ∧ whyOf D v (insA (rmv1 P s v) i s) = 0 ∧ cst D v (insA (rmv1 P s v) i s) < cst D v (P v) + (cst D h (P h) - cst D h (rmv1 P s h)) := by
  unfold mok mvd
  rw [rmv1_eq hh hne, tot_up u0 u1, tot_up v0 v1, up_eq, up_ne e]
  constructor
  · rintro ⟨q1, q2⟩
    have a := q1 h v0 v1
    have b := q1 v u0 u1
    rw [up_ne (fun z => e z.symm), up_eq] at a
    rw [up_eq] at b
    exact ⟨a, b, by omega⟩
  · rintro ⟨a, b, c⟩
    exact ⟨(AF_up u0 u1 ((AF_up v0 v1 hA).mpr a)).mpr b, by omega⟩
end mok
theorem ct_moveToLess {σ D : sto} {ns nv s h B : Int} {P : pln} (hC : DC σ D ns nv) (hO : DOK D ns nv) (hT : TC σ D B) (hB : B ≤ 4000) (hQ : PA σ 27 P) (hP : PO ns nv P) (hA : AF D nv P) (s0 : 0 ≤ s) (s1 : s < ns) (hh : vanOf P s = h) (hne : h ≠ -1) : CI M_Planner_moveToLess 5 [vR 1, vI s, vI h] σ (fun r σ' => TC σ' D B ∧ PF σ σ' ∧ (mvv D nv P s < nv ∧ r = 1 ∧ PA σ' 27 (mvp D nv P s) ∨ ¬ mvv D nv P s < nv ∧ r = 0 ∧ PA σ' 27 P)) := by
  have hn := hO.1
  have hin : s ∈ al3 P := Classical.byContradiction (fun q => hne (by rw [← hh]; exact vanOf_no.mpr q))
  obtain ⟨y1, y2, y3, y4, y5, y6, y7, y8⟩ := vanOf_yes hP hin
  rw [hh] at y1 y2 y3 y4 y5 y7 y8
  have hRV := hP.rv hn.1 hn.2.1
  obtain ⟨hP1, hs1⟩ := hP.rmv hn.2.2.2 s
  have hRV1 := hP1.rv hn.1 hn.2.1
  have e1 := rmv1_eq hh hne
  have e2 : rmv1 P s h = delA (P h) (plcOf P s) := by rw [e1, up_eq]
  have ch := cst_in hO (hRV h y1 y2) y1 y3 (hA h y1 y3)
  have L : ∀ le fr : Int, (le = 1 ∧ whyOf D h (rmv1 P s h) = 0 ∧ fr = cst D h (P h) - cst D h (rmv1 P s h) ∨ le = 0 ∧ whyOf D h (rmv1 P s h) ≠ 0) → ∀ v, 0 ≤ v → v ≤ nv → ∀ σ1 : sto, TC σ1 D B → PA σ1 27 (rmv1 P s) → PF σ σ1 → (∀ u, 0 ≤ u → u < v → mvi D nv P s u = ln (rmv1 P s u) + 1) → Run M_Planner_moveToLess (rxI 5 (fun r σ' => TC σ' D B ∧ PF σ σ' ∧ (mvv D nv P s < nv ∧ r = 1 ∧ PA σ' 27 (mvp D nv P s) ∨ ¬ mvv D nv P s < nv ∧ r = 0 ∧ PA σ' 27 P))) (0, 0) 77 [vR 1, vI s, vI h, vI (plcOf P s), vI (cst D h (P h)), vI le, vI fr, vI v, vU, vU] [] (sg σ1) := by
    intro le fr hle
    refine up_ind (b := nv) ?_ ?_
    · intro σ1 hT1 hQ1 hF1 hu
      have h18 := (hF1.dc hC).2.1
      have hmv : mvv D nv P s = nv := fst1_none hn.2.2.1 (fun j j0 j1 => decide_eq_false (by rw [hu j j0 j1]; omega))
      refine r_iload 7 d_Planner_moveToLess_77 rfl ?_
      refine r_aload_n 0 d_Planner_moveToLess_79 rfl rfl ?_
      refine r_getR 18 d_Planner_moveToLess_80 fk_Planner_27 rfl rfl rfl (by decide) ?_
      refine r_getI 0 d_Planner_moveToLess_83 fk_Planner_55 rfl rfl rfl ?_
      rw [h18]
      refine r_icmp_ge 223 d_Planner_moveToLess_86 rfl (by omega) (by omega) (fun h86 => ?_) (fun h86 => absurd h86 (by omega))
      refine r_aload_n 0 d_Planner_moveToLess_223 rfl rfl ?_
      refine r_getR 27 d_Planner_moveToLess_224 fk_Planner_31 rfl rfl rfl (by decide) ?_
      refine r_iload_n 2 d_Planner_moveToLess_227 rfl rfl ?_
      refine r_iload_n 3 d_Planner_moveToLess_228 rfl rfl ?_
      refine r_iload_n 1 d_Planner_moveToLess_229 rfl rfl ?_
      refine r_cVV 1 d_Planner_moveToLess_230 lk_Planner_72 vc_Plan_insert (ct_insert pl27 hQ1 y1 y2 y6 (by rw [e2, ln_del (by omega)]; omega) (by rw [e2, ln_del (by omega)]; have := hRV h y1 y2; have := this.1; omega) s0 (by omega)) rfl rfl rfl rfl ⟨Nat.le_of_ble_eq_true rfl, Nat.le_of_ble_eq_true rfl⟩ ⟨Nat.zero_le _, Nat.zero_le _⟩ (Nat.le_of_ble_eq_true rfl) (fun s230 q230 => ?_)
      obtain ⟨a1, a2⟩ := q230
      have a3 : up (rmv1 P s) h (insA (rmv1 P s h) (plcOf P s) s) = P := by
        have := ins_del (l := P h) (i := plcOf P s) y6 y7
        rw [y8] at this
        rw [e1, up_eq, this, up_up, up_self]
      rw [a3] at a1
      refine r_iconst d_Planner_moveToLess_233 ?_
      refine q_zret d_Planner_moveToLess_234 rfl (by omega) ?_
      exact ⟨a2.tc pl27 hT1, hF1.tr a2.pf, Or.inr ⟨by omega, rfl, a1⟩⟩
    · intro v v0 v1 ih σ1 hT1 hQ1 hF1 hu
      have h18 := (hF1.dc hC).2.1
      have hl1 := ln0 (rmv1 P s v)
      have hrow := hRV1 v v0 (by omega)
      have k217 : ∀ σ2 : sto, TC σ2 D B → PA σ2 27 (rmv1 P s) → PF σ σ2 → (∀ i, 0 ≤ i → i ≤ ln (rmv1 P s v) → ¬ mok D nv P s v i) → Run M_Planner_moveToLess (rxI 5 (fun r σ' => TC σ' D B ∧ PF σ σ' ∧ (mvv D nv P s < nv ∧ r = 1 ∧ PA σ' 27 (mvp D nv P s) ∨ ¬ mvv D nv P s < nv ∧ r = 0 ∧ PA σ' 27 P))) (0, 0) 217 [vR 1, vI s, vI h, vI (plcOf P s), vI (cst D h (P h)), vI le, vI fr, vI v, vU, vU] [] (sg σ2) := by
        intro σ2 hT2 hQ2 hF2 hno
        have hm : mvi D nv P s v = ln (rmv1 P s v) + 1 := fst1_none (by omega) (fun j j0 j1 => mokb_f (hno j j0 (by omega)))
        refine r_iinc 7 d_Planner_moveToLess_217 rfl (by decide) rfl ?_
        refine r_goto 77 d_Planner_moveToLess_220 rfl ?_
        refine ih σ2 hT2 hQ2 hF2 (fun u u0 u1 => ?_)
        by_cases e : u = v
        · rw [e]; exact hm
        · exact hu u u0 (by omega)
      have kin : ∀ bd : Int, -200000 ≤ bd → bd ≤ 200000 → (∀ i, mok D nv P s v i ↔ whyOf D v (insA (rmv1 P s v) i s) = 0 ∧ cst D v (insA (rmv1 P s v) i s) < bd) → ∀ i, 0 ≤ i → i ≤ ln (rmv1 P s v) + 1 → ∀ σ2 : sto, TC σ2 D B → PA σ2 27 (rmv1 P s) → PF σ σ2 → (∀ j, 0 ≤ j → j < i → ¬ mok D nv P s v j) → Run M_Planner_moveToLess (rxI 5 (fun r σ' => TC σ' D B ∧ PF σ σ' ∧ (mvv D nv P s < nv ∧ r = 1 ∧ PA σ' 27 (mvp D nv P s) ∨ ¬ mvv D nv P s < nv ∧ r = 0 ∧ PA σ' 27 P))) (0, 0) 143 [vR 1, vI s, vI h, vI (plcOf P s), vI (cst D h (P h)), vI le, vI fr, vI v, vI bd, vI i] [] (sg σ2) := by
        intro bd d0 d1 hmk
        refine up_ind (b := ln (rmv1 P s v) + 1) ?_ ?_
        · intro σ2 hT2 hQ2 hF2 hj
          have hz : σ2 32 v = ln (rmv1 P s v) := (hQ2.len v0 (by omega)).1
          have hz12 := hrow.1
          refine r_iload 9 d_Planner_moveToLess_143 rfl ?_
          refine r_aload_n 0 d_Planner_moveToLess_145 rfl rfl ?_
          refine r_getR 27 d_Planner_moveToLess_146 fk_Planner_31 rfl rfl rfl (by decide) ?_
          refine r_getR 32 d_Planner_moveToLess_149 fk_Planner_89 rfl rfl rfl (by decide) ?_
          refine r_iload 7 d_Planner_moveToLess_152 rfl ?_
          refine r_iald 3 d_Planner_moveToLess_154 rfl rfl (by omega) (by omega) ?_
          rw [hz]
          refine r_icmp_gt 217 d_Planner_moveToLess_155 rfl (by omega) (by omega) (fun h155 => ?_) (fun h155 => absurd h155 (by omega))
          exact r_drop 8 (r_drop 9 (k217 σ2 hT2 hQ2 hF2 (fun i i0 i1 => hj i i0 (by omega))))
        · intro i i0 i1 ihi σ2 hT2 hQ2 hF2 hj
          have hz : σ2 32 v = ln (rmv1 P s v) := (hQ2.len v0 (by omega)).1
          have hz12 := hrow.1
          obtain ⟨o1, o2, o3, o4⟩ := row_ok hO hP1 v0 v1 i0 (show i ≤ ln (rmv1 P s v) by omega) s0 s1 hs1
          have hr2 : RV ns ((up (rmv1 P s) v (insA (rmv1 P s v) i s)) v) := by rw [up_eq]; exact o3
          have k200 : ¬ mok D nv P s v i → ∀ σ3 : sto, TC σ3 D B → PA σ3 27 (up (rmv1 P s) v (insA (rmv1 P s v) i s)) → PF σ σ3 → Run M_Planner_moveToLess (rxI 5 (fun r σ' => TC σ' D B ∧ PF σ σ' ∧ (mvv D nv P s < nv ∧ r = 1 ∧ PA σ' 27 (mvp D nv P s) ∨ ¬ mvv D nv P s < nv ∧ r = 0 ∧ PA σ' 27 P))) (0, 0) 200 [vR 1, vI s, vI h, vI (plcOf P s), vI (cst D h (P h)), vI le, vI fr, vI v, vI bd, vI i] [] (sg σ3) := by
            intro hno σ3 hT3 hQ3 hF3
            refine r_aload_n 0 d_Planner_moveToLess_200 rfl rfl ?_
            refine r_getR 27 d_Planner_moveToLess_201 fk_Planner_31 rfl rfl rfl (by decide) ?_
            refine r_iload 7 d_Planner_moveToLess_204 rfl ?_
            refine r_iload 9 d_Planner_moveToLess_206 rfl ?_
            refine r_cVV 1 d_Planner_moveToLess_208 lk_Planner_96 vc_Plan_removeAt (ct_removeAt pl27 hQ3 v0 (by omega) i0 (by rw [up_eq, ln_ins]; omega)) rfl rfl rfl rfl ⟨Nat.le_of_ble_eq_true rfl, Nat.le_of_ble_eq_true rfl⟩ ⟨Nat.zero_le _, Nat.zero_le _⟩ (Nat.le_of_ble_eq_true rfl) (fun s208 q208 => ?_)
            obtain ⟨a1, a2⟩ := q208
            rw [up_eq, del_ins i0 (by omega), up_up, up_self] at a1
            refine r_iinc 9 d_Planner_moveToLess_211 rfl (by decide) rfl ?_
            refine r_goto 143 d_Planner_moveToLess_214 rfl ?_
            refine ihi _ (a2.tc pl27 hT3) a1 (hF3.tr a2.pf) (fun j j0 j1 => ?_)
            by_cases e : j = i
            · rw [e]; exact hno
            · exact hj j j0 (by omega)
          refine r_iload 9 d_Planner_moveToLess_143 rfl ?_
          refine r_aload_n 0 d_Planner_moveToLess_145 rfl rfl ?_
          refine r_getR 27 d_Planner_moveToLess_146 fk_Planner_31 rfl rfl rfl (by decide) ?_
          refine r_getR 32 d_Planner_moveToLess_149 fk_Planner_89 rfl rfl rfl (by decide) ?_
          refine r_iload 7 d_Planner_moveToLess_152 rfl ?_
          refine r_iald 3 d_Planner_moveToLess_154 rfl rfl (by omega) (by omega) ?_
          rw [hz]
          refine r_icmp_gt 217 d_Planner_moveToLess_155 rfl (by omega) (by omega) (fun h155 => absurd h155 (by omega)) (fun h155 => ?_)
          refine r_aload_n 0 d_Planner_moveToLess_158 rfl rfl ?_
          refine r_getR 27 d_Planner_moveToLess_159 fk_Planner_31 rfl rfl rfl (by decide) ?_
          refine r_iload 7 d_Planner_moveToLess_162 rfl ?_
          refine r_iload 9 d_Planner_moveToLess_164 rfl ?_
          refine r_iload_n 1 d_Planner_moveToLess_166 rfl rfl ?_
          refine r_cVV 1 d_Planner_moveToLess_167 lk_Planner_72 vc_Plan_insert (ct_insert pl27 hQ2 v0 (by omega) i0 (by omega) o4 s0 (by omega)) rfl rfl rfl rfl ⟨Nat.le_of_ble_eq_true rfl, Nat.le_of_ble_eq_true rfl⟩ ⟨Nat.zero_le _, Nat.zero_le _⟩ (Nat.le_of_ble_eq_true rfl) (fun s167 q167 => ?_)
          obtain ⟨a1, a2⟩ := q167
          have hT6 := a2.tc pl27 hT2
          have hF6 := hF2.tr a2.pf
          refine r_aload_n 0 d_Planner_moveToLess_170 rfl rfl ?_
          refine r_getR 2 d_Planner_moveToLess_171 fk_Planner_12 rfl rfl rfl (by decide) ?_
          refine r_aload_n 0 d_Planner_moveToLess_174 rfl rfl ?_
          refine r_getR 27 d_Planner_moveToLess_175 fk_Planner_31 rfl rfl rfl (by decide) ?_
          refine r_iload 7 d_Planner_moveToLess_178 rfl ?_
          refine r_cVI 5 d_Planner_moveToLess_180 lk_Planner_82 vc_Trip_judge (ct_judge (hF6.dc hC) hO hT6 hB pl27 a1 v0 v1 hr2) rfl rfl rfl rfl ⟨Nat.le_of_ble_eq_true rfl, Nat.le_of_ble_eq_true rfl⟩ ⟨Nat.zero_le _, Nat.zero_le _⟩ (Nat.le_of_ble_eq_true rfl) (fun r180 s180 q180 => ?_)
          obtain ⟨e7, -, hT7, hJ7, hN7⟩ := q180
          rw [up_eq] at e7
          have hQ7 := hJ7.pa pl27 a1
          have hF7 := hF6.tr hJ7.pf
          have hwi := whyOf_in D v (insA (rmv1 P s v) i s)
          refine r_if_ne 200 d_Planner_moveToLess_183 rfl (by omega) (fun h183 => ?_) (fun h183 => ?_)
          · first
              | exact k200 (fun q => by have := (hmk i).mp q; omega) _ hT7 hQ7 hF7
          · refine r_aload_n 0 d_Planner_moveToLess_186 rfl rfl ?_
            refine r_getR 2 d_Planner_moveToLess_187 fk_Planner_12 rfl rfl rfl (by decide) ?_
            refine r_getI 9 d_Planner_moveToLess_190 fk_Planner_86 rfl rfl rfl ?_
            refine r_iload 8 d_Planner_moveToLess_193 rfl ?_
            have hJ := (hN7 h183).1
            rw [up_eq] at hJ
            rw [hJ]
            have cr := cst_in hO o3 v0 v1 (by rw [← e7]; exact h183)
            refine r_icmp_ge 200 d_Planner_moveToLess_195 rfl (by omega) (by omega) (fun h195 => ?_) (fun h195 => ?_)
            · first
                | exact k200 (fun q => by have := (hmk i).mp q; omega) _ hT7 hQ7 hF7
            · refine r_iconst d_Planner_moveToLess_198 ?_
              refine q_zret d_Planner_moveToLess_199 rfl (by omega) ?_
              have hm1 : mok D nv P s v i := (hmk i).mpr ⟨by rw [← e7]; exact h183, by omega⟩
              have hm2 : mvi D nv P s v = i := fst1_of i0 i1 (mokb_t hm1) (fun j j0 j1 => mokb_f (hj j j0 j1))
              have hm3 : mvv D nv P s = v := fst1_of v0 v1 (decide_eq_true (by rw [hm2]; omega)) (fun j j0 j1 => decide_eq_false (by rw [hu j j0 j1]; omega))
              refine ⟨hT7, hF7, Or.inl ⟨by omega, rfl, ?_⟩⟩
              unfold mvp
              rw [hm3, hm2]
              exact hQ7
      have k103 : (v = h ∨ le = 1) → Run M_Planner_moveToLess (rxI 5 (fun r σ' => TC σ' D B ∧ PF σ σ' ∧ (mvv D nv P s < nv ∧ r = 1 ∧ PA σ' 27 (mvp D nv P s) ∨ ¬ mvv D nv P s < nv ∧ r = 0 ∧ PA σ' 27 P))) (0, 0) 103 [vR 1, vI s, vI h, vI (plcOf P s), vI (cst D h (P h)), vI le, vI fr, vI v, vU, vU] [] (sg σ1) := by
        intro hor
        refine r_aload_n 0 d_Planner_moveToLess_103 rfl rfl ?_
        refine r_getR 2 d_Planner_moveToLess_104 fk_Planner_12 rfl rfl rfl (by decide) ?_
        refine r_aload_n 0 d_Planner_moveToLess_107 rfl rfl ?_
        refine r_getR 27 d_Planner_moveToLess_108 fk_Planner_31 rfl rfl rfl (by decide) ?_
        refine r_iload 7 d_Planner_moveToLess_111 rfl ?_
        refine r_cVI 5 d_Planner_moveToLess_113 lk_Planner_82 vc_Trip_judge (ct_judge (hF1.dc hC) hO hT1 hB pl27 hQ1 v0 v1 hrow) rfl rfl rfl rfl ⟨Nat.le_of_ble_eq_true rfl, Nat.le_of_ble_eq_true rfl⟩ ⟨Nat.zero_le _, Nat.zero_le _⟩ (Nat.le_of_ble_eq_true rfl) (fun r113 s113 q113 => ?_)
        obtain ⟨e7, -, hT7, hJ7, hN7⟩ := q113
        have hQ7 := hJ7.pa pl27 hQ1
        have hF7 := hF1.tr hJ7.pf
        refine r_pop d_Planner_moveToLess_116 rfl ?_
        refine r_iload 7 d_Planner_moveToLess_117 rfl ?_
        refine r_iload_n 2 d_Planner_moveToLess_119 rfl rfl ?_
        refine r_icmp_ne 128 d_Planner_moveToLess_120 rfl (by omega) (by omega) (fun h120 => ?_) (fun h120 => ?_)
        · have hl := hle.resolve_right (fun q => by omega)
          have ev : rmv1 P s v = P v := by rw [e1, up_ne h120]
          have hN := (hN7 (by rw [e7, ev]; exact hA v v0 v1)).1
          rw [ev] at hN
          have cv := cst_in hO (hRV v v0 (by omega)) v0 v1 (hA v v0 v1)
          have cd := cst_in hO (hRV1 h y1 y2) y1 y3 hl.2.1
          refine r_aload_n 0 d_Planner_moveToLess_128 rfl rfl ?_
          refine r_getR 2 d_Planner_moveToLess_129 fk_Planner_12 rfl rfl rfl (by decide) ?_
          refine r_getI 9 d_Planner_moveToLess_132 fk_Planner_86 rfl rfl rfl ?_
          rw [hN]
          refine r_iload 6 d_Planner_moveToLess_135 rfl ?_
          refine r_iadd d_Planner_moveToLess_137 ?_
          refine r_istore 8 d_Planner_moveToLess_138 (by decide) rfl ?_
          refine r_iconst d_Planner_moveToLess_140 ?_
          refine r_istore 9 d_Planner_moveToLess_141 (by decide) rfl ?_
          first
            | exact kin _ (by omega) (by omega) (fun i => by rw [mok_away hA hh hne y1 y3 v0 v1 h120, hl.2.2]; exact ⟨fun q => q.2, fun q => ⟨hl.2.1, q⟩⟩) 0 (by omega) (by omega) _ hT7 hQ7 hF7 (fun j j0 j1 => by omega)
            | exact kin _ (by omega) (by omega) (fun i => by rw [show v = h by omega]; exact mok_home hA hh hne y1 y3) 0 (by omega) (by omega) _ hT7 hQ7 hF7 (fun j j0 j1 => by omega)
        · refine r_iload 4 d_Planner_moveToLess_123 rfl ?_
          refine r_goto 138 d_Planner_moveToLess_125 rfl ?_
          refine r_istore 8 d_Planner_moveToLess_138 (by decide) rfl ?_
          refine r_iconst d_Planner_moveToLess_140 ?_
          refine r_istore 9 d_Planner_moveToLess_141 (by decide) rfl ?_
          first
            | exact kin _ (by omega) (by omega) (fun i => by rw [mok_away hA hh hne y1 y3 v0 v1 h120, hl.2.2]; exact ⟨fun q => q.2, fun q => ⟨hl.2.1, q⟩⟩) 0 (by omega) (by omega) _ hT7 hQ7 hF7 (fun j j0 j1 => by omega)
            | exact kin _ (by omega) (by omega) (fun i => by rw [show v = h by omega]; exact mok_home hA hh hne y1 y3) 0 (by omega) (by omega) _ hT7 hQ7 hF7 (fun j j0 j1 => by omega)
      refine r_iload 7 d_Planner_moveToLess_77 rfl ?_
      refine r_aload_n 0 d_Planner_moveToLess_79 rfl rfl ?_
      refine r_getR 18 d_Planner_moveToLess_80 fk_Planner_27 rfl rfl rfl (by decide) ?_
      refine r_getI 0 d_Planner_moveToLess_83 fk_Planner_55 rfl rfl rfl ?_
      rw [h18]
      refine r_icmp_ge 223 d_Planner_moveToLess_86 rfl (by omega) (by omega) (fun h86 => absurd h86 (by omega)) (fun h86 => ?_)
      refine r_iload 7 d_Planner_moveToLess_89 rfl ?_
      refine r_iload_n 2 d_Planner_moveToLess_91 rfl rfl ?_
      refine r_icmp_eq 103 d_Planner_moveToLess_92 rfl (by omega) (by omega) (fun h92 => ?_) (fun h92 => ?_)
      · first
          | exact k103 (Or.inl h92)
          | exact k103 (Or.inr (by omega))
      · refine r_iload 5 d_Planner_moveToLess_95 rfl ?_
        refine r_if_ne 103 d_Planner_moveToLess_97 rfl (by omega) (fun h97 => ?_) (fun h97 => ?_)
        · first
            | exact k103 (Or.inl h92)
            | exact k103 (Or.inr (by omega))
        · refine r_goto 217 d_Planner_moveToLess_100 rfl ?_
          refine k217 σ1 hT1 hQ1 hF1 (fun i i0 i1 q => ?_)
          have := (mok_away hA hh hne y1 y3 v0 v1 h92).mp q
          omega
  refine ci_of [vR 1, vI s, vI h, vU, vU, vU, vU, vU, vU, vU] fy_Planner_moveToLess.1 rfl (Nat.le_of_ble_eq_true rfl) ?_
  refine r_aload_n 0 d_Planner_moveToLess_0 rfl rfl ?_
  refine r_getR 27 d_Planner_moveToLess_1 fk_Planner_31 rfl rfl rfl (by decide) ?_
  refine r_iload_n 1 d_Planner_moveToLess_4 rfl rfl ?_
  refine r_cVP 1 d_Planner_moveToLess_5 lk_Planner_106 vc_Plan_placeOf (ct_placeOf pl27 hQ (by omega)) rfl rfl rfl rfl ⟨Nat.le_of_ble_eq_true rfl, Nat.le_of_ble_eq_true rfl⟩ ⟨Nat.zero_le _, Nat.zero_le _⟩ (Nat.le_of_ble_eq_true rfl) ?_
  refine r_istore_n 3 d_Planner_moveToLess_8 rfl (by decide) rfl ?_
  refine r_aload_n 0 d_Planner_moveToLess_9 rfl rfl ?_
  refine r_getR 2 d_Planner_moveToLess_10 fk_Planner_12 rfl rfl rfl (by decide) ?_
  refine r_aload_n 0 d_Planner_moveToLess_13 rfl rfl ?_
  refine r_getR 27 d_Planner_moveToLess_14 fk_Planner_31 rfl rfl rfl (by decide) ?_
  refine r_iload_n 2 d_Planner_moveToLess_17 rfl rfl ?_
  refine r_cVI 5 d_Planner_moveToLess_18 lk_Planner_82 vc_Trip_judge (ct_judge hC hO hT hB pl27 hQ y1 y3 (hRV h y1 y2)) rfl rfl rfl rfl ⟨Nat.le_of_ble_eq_true rfl, Nat.le_of_ble_eq_true rfl⟩ ⟨Nat.zero_le _, Nat.zero_le _⟩ (Nat.le_of_ble_eq_true rfl) (fun r18 s18 q18 => ?_)
  obtain ⟨e3, -, hT3, hJ3, hN3⟩ := q18
  have hN := (hN3 (by rw [e3]; exact hA h y1 y3)).1
  have hQ3 := hJ3.pa pl27 hQ
  refine r_pop d_Planner_moveToLess_21 rfl ?_
  refine r_aload_n 0 d_Planner_moveToLess_22 rfl rfl ?_
  refine r_getR 2 d_Planner_moveToLess_23 fk_Planner_12 rfl rfl rfl (by decide) ?_
  refine r_getI 9 d_Planner_moveToLess_26 fk_Planner_86 rfl rfl rfl ?_
  rw [hN]
  refine r_istore 4 d_Planner_moveToLess_29 (by decide) rfl ?_
  refine r_aload_n 0 d_Planner_moveToLess_31 rfl rfl ?_
  refine r_getR 27 d_Planner_moveToLess_32 fk_Planner_31 rfl rfl rfl (by decide) ?_
  refine r_iload_n 2 d_Planner_moveToLess_35 rfl rfl ?_
  refine r_iload_n 3 d_Planner_moveToLess_36 rfl rfl ?_
  refine r_cVV 1 d_Planner_moveToLess_37 lk_Planner_96 vc_Plan_removeAt (ct_removeAt pl27 hQ3 y1 y2 y6 y7) rfl rfl rfl rfl ⟨Nat.le_of_ble_eq_true rfl, Nat.le_of_ble_eq_true rfl⟩ ⟨Nat.zero_le _, Nat.zero_le _⟩ (Nat.le_of_ble_eq_true rfl) (fun s37 q37 => ?_)
  obtain ⟨a1, a2⟩ := q37
  rw [← e1] at a1
  have hT4 := a2.tc pl27 hT3
  have hF4 := hJ3.pf.tr a2.pf
  refine r_aload_n 0 d_Planner_moveToLess_40 rfl rfl ?_
  refine r_getR 2 d_Planner_moveToLess_41 fk_Planner_12 rfl rfl rfl (by decide) ?_
  refine r_aload_n 0 d_Planner_moveToLess_44 rfl rfl ?_
  refine r_getR 27 d_Planner_moveToLess_45 fk_Planner_31 rfl rfl rfl (by decide) ?_
  refine r_iload_n 2 d_Planner_moveToLess_48 rfl rfl ?_
  refine r_cVI 5 d_Planner_moveToLess_49 lk_Planner_82 vc_Trip_judge (ct_judge (hF4.dc hC) hO hT4 hB pl27 a1 y1 y3 (hRV1 h y1 y2)) rfl rfl rfl rfl ⟨Nat.le_of_ble_eq_true rfl, Nat.le_of_ble_eq_true rfl⟩ ⟨Nat.zero_le _, Nat.zero_le _⟩ (Nat.le_of_ble_eq_true rfl) (fun r49 s49 q49 => ?_)
  obtain ⟨e7, -, hT7, hJ7, hN7⟩ := q49
  have hQ7 := hJ7.pa pl27 a1
  have hF7 := hF4.tr hJ7.pf
  have hwi := whyOf_in D h (rmv1 P s h)
  refine r_if_ne 59 d_Planner_moveToLess_52 rfl (by omega) (fun h52 => ?_) (fun h52 => ?_)
  · refine r_iconst d_Planner_moveToLess_59 ?_
    refine r_istore 5 d_Planner_moveToLess_60 (by decide) rfl ?_
    refine r_iload 4 d_Planner_moveToLess_62 rfl ?_
    refine r_aload_n 0 d_Planner_moveToLess_64 rfl rfl ?_
    refine r_getR 2 d_Planner_moveToLess_65 fk_Planner_12 rfl rfl rfl (by decide) ?_
    refine r_getI 9 d_Planner_moveToLess_68 fk_Planner_86 rfl rfl rfl ?_
    refine r_isub d_Planner_moveToLess_71 ?_
    refine r_istore 6 d_Planner_moveToLess_72 (by decide) rfl ?_
    refine r_iconst d_Planner_moveToLess_74 ?_
    refine r_istore 7 d_Planner_moveToLess_75 (by decide) rfl ?_
    first
      | exact L 1 _ (Or.inl ⟨rfl, by rw [← e7]; exact h52, by rw [hN2]⟩) 0 (by omega) (by omega) _ hT7 hQ7 hF7 (fun u u0 u1 => by omega)
      | exact L 0 _ (Or.inr ⟨rfl, by rw [← e7]; exact h52⟩) 0 (by omega) (by omega) _ hT7 hQ7 hF7 (fun u u0 u1 => by omega)
  · have hN2 := (hN7 h52).1
    refine r_iconst d_Planner_moveToLess_55 ?_
    refine r_goto 60 d_Planner_moveToLess_56 rfl ?_
    refine r_istore 5 d_Planner_moveToLess_60 (by decide) rfl ?_
    refine r_iload 4 d_Planner_moveToLess_62 rfl ?_
    refine r_aload_n 0 d_Planner_moveToLess_64 rfl rfl ?_
    refine r_getR 2 d_Planner_moveToLess_65 fk_Planner_12 rfl rfl rfl (by decide) ?_
    refine r_getI 9 d_Planner_moveToLess_68 fk_Planner_86 rfl rfl rfl ?_
    refine r_isub d_Planner_moveToLess_71 ?_
    refine r_istore 6 d_Planner_moveToLess_72 (by decide) rfl ?_
    refine r_iconst d_Planner_moveToLess_74 ?_
    refine r_istore 7 d_Planner_moveToLess_75 (by decide) rfl ?_
    first
      | exact L 1 _ (Or.inl ⟨rfl, by rw [← e7]; exact h52, by rw [hN2]⟩) 0 (by omega) (by omega) _ hT7 hQ7 hF7 (fun u u0 u1 => by omega)
      | exact L 0 _ (Or.inr ⟨rfl, by rw [← e7]; exact h52⟩) 0 (by omega) (by omega) _ hT7 hQ7 hF7 (fun u u0 u1 => by omega)
theorem ct_improve {σ D : sto} {ns nv B : Int} {P : pln} (hC : DC σ D ns nv) (hO : DOK D ns nv) (hT : TC σ D B) (hB : B ≤ 4000) (hQ : PA σ 27 P) (hP : PO ns nv P) (hA : AF D nv P) : CI M_Planner_improve 6 [vR 1] σ (fun r σ' => TC σ' D B ∧ PF σ σ' ∧ (mvs D ns nv P < ns ∧ r = 1 ∧ PA σ' 27 (imp D ns nv P) ∨ ¬ mvs D ns nv P < ns ∧ r = 0 ∧ PA σ' 27 P)) := by
  have hn := hO.1
  have key : ∀ s, 0 ≤ s → s ≤ ns → ∀ σ1 : sto, TC σ1 D B → PA σ1 27 P → PF σ σ1 → (∀ u, 0 ≤ u → u < s → ¬ (vanOf P u ≠ -1 ∧ mvv D nv P u < nv)) → Run M_Planner_improve (rxI 6 (fun r σ' => TC σ' D B ∧ PF σ σ' ∧ (mvs D ns nv P < ns ∧ r = 1 ∧ PA σ' 27 (imp D ns nv P) ∨ ¬ mvs D ns nv P < ns ∧ r = 0 ∧ PA σ' 27 P))) (0, 0) 2 [vR 1, vI s, vU] [] (sg σ1) := by
    refine up_ind (b := ns) ?_ ?_
    · intro σ1 hT1 hQ1 hF1 hu
      have h9 := (hF1.dc hC).1
      have hm : mvs D ns nv P = ns := fst1_none hn.1 (fun j j0 j1 => decide_eq_false (hu j j0 j1))
      refine r_iload_n 1 d_Planner_improve_2 rfl rfl ?_
      refine r_aload_n 0 d_Planner_improve_3 rfl rfl ?_
      refine r_getR 9 d_Planner_improve_4 fk_Planner_22 rfl rfl rfl (by decide) ?_
      refine r_getI 0 d_Planner_improve_7 fk_Planner_42 rfl rfl rfl ?_
      rw [h9]
      refine r_icmp_ge 44 d_Planner_improve_10 rfl (by omega) (by omega) (fun h10 => ?_) (fun h10 => absurd h10 (by omega))
      refine r_iconst d_Planner_improve_44 ?_
      refine q_zret d_Planner_improve_45 rfl (by omega) ?_
      exact ⟨hT1, hF1, Or.inr ⟨by omega, rfl, hQ1⟩⟩
    · intro s s0 s1 ih σ1 hT1 hQ1 hF1 hu
      have h9 := (hF1.dc hC).1
      have hvr : -1 ≤ vanOf P s ∧ vanOf P s < 3 := by rcases vanOf_cases P s with ⟨v, a, b, -, -, c, -⟩ | ⟨-, c, -⟩ <;> omega
      have k38 : ¬ (vanOf P s ≠ -1 ∧ mvv D nv P s < nv) → ∀ σ2 : sto, TC σ2 D B → PA σ2 27 P → PF σ σ2 → Run M_Planner_improve (rxI 6 (fun r σ' => TC σ' D B ∧ PF σ σ' ∧ (mvs D ns nv P < ns ∧ r = 1 ∧ PA σ' 27 (imp D ns nv P) ∨ ¬ mvs D ns nv P < ns ∧ r = 0 ∧ PA σ' 27 P))) (0, 0) 38 [vR 1, vI s, vU] [] (sg σ2) := by
        intro hno σ2 hT2 hQ2 hF2
        refine r_iinc 1 d_Planner_improve_38 rfl (by decide) rfl ?_
        refine r_goto 2 d_Planner_improve_41 rfl ?_
        refine ih σ2 hT2 hQ2 hF2 (fun u u0 u1 => ?_)
        by_cases e : u = s
        · rw [e]; exact hno
        · exact hu u u0 (by omega)
      refine r_iload_n 1 d_Planner_improve_2 rfl rfl ?_
      refine r_aload_n 0 d_Planner_improve_3 rfl rfl ?_
      refine r_getR 9 d_Planner_improve_4 fk_Planner_22 rfl rfl rfl (by decide) ?_
      refine r_getI 0 d_Planner_improve_7 fk_Planner_42 rfl rfl rfl ?_
      rw [h9]
      refine r_icmp_ge 44 d_Planner_improve_10 rfl (by omega) (by omega) (fun h10 => absurd h10 (by omega)) (fun h10 => ?_)
      refine r_aload_n 0 d_Planner_improve_13 rfl rfl ?_
      refine r_getR 27 d_Planner_improve_14 fk_Planner_31 rfl rfl rfl (by decide) ?_
      refine r_iload_n 1 d_Planner_improve_17 rfl rfl ?_
      refine r_cVP 1 d_Planner_improve_18 lk_Planner_51 vc_Plan_vanWith (ct_vanWith pl27 hQ1 (by omega)) rfl rfl rfl rfl ⟨Nat.le_of_ble_eq_true rfl, Nat.le_of_ble_eq_true rfl⟩ ⟨Nat.zero_le _, Nat.zero_le _⟩ (Nat.le_of_ble_eq_true rfl) ?_
      refine r_istore_n 2 d_Planner_improve_21 rfl (by decide) rfl ?_
      refine r_iload_n 2 d_Planner_improve_22 rfl rfl ?_
      refine r_iconst d_Planner_improve_23 ?_
      refine r_icmp_eq 38 d_Planner_improve_24 rfl (by omega) (by omega) (fun h24 => ?_) (fun h24 => ?_)
      · first
          | exact r_drop 2 (k38 (fun q => q.1 h24) σ1 hT1 hQ1 hF1)
          | (have hR := hR.resolve_left (fun q => by omega)
             exact r_drop 2 (k38 (fun q => hR.1 q.2) _ hT2 hR.2.2 (hF1.tr hF2)))
      · refine r_aload_n 0 d_Planner_improve_27 rfl rfl ?_
        refine r_iload_n 1 d_Planner_improve_28 rfl rfl ?_
        refine r_iload_n 2 d_Planner_improve_29 rfl rfl ?_
        refine r_cVI 2 d_Planner_improve_30 lk_Planner_102 vc_Planner_moveToLess (ct_moveToLess (hF1.dc hC) hO hT1 hB hQ1 hP hA s0 s1 rfl h24) rfl rfl rfl rfl ⟨Nat.le_of_ble_eq_true rfl, Nat.le_of_ble_eq_true rfl⟩ ⟨Nat.zero_le _, Nat.zero_le _⟩ (Nat.le_of_ble_eq_true rfl) (fun r30 s30 q30 => ?_)
        obtain ⟨hT2, hF2, hR⟩ := q30
        refine r_if_eq 38 d_Planner_improve_33 rfl (by omega) (fun h33 => ?_) (fun h33 => ?_)
        · first
            | exact r_drop 2 (k38 (fun q => q.1 h24) σ1 hT1 hQ1 hF1)
            | (have hR := hR.resolve_left (fun q => by omega)
               exact r_drop 2 (k38 (fun q => hR.1 q.2) _ hT2 hR.2.2 (hF1.tr hF2)))
        · refine r_iconst d_Planner_improve_36 ?_
          refine q_zret d_Planner_improve_37 rfl (by omega) ?_
          have hR := hR.resolve_right (fun q => by omega)
          have hm : mvs D ns nv P = s := fst1_of s0 s1 (decide_eq_true ⟨h24, hR.1⟩) (fun j j0 j1 => decide_eq_false (hu j j0 j1))
          refine ⟨hT2, hF1.tr hF2, Or.inl ⟨by omega, rfl, ?_⟩⟩
          unfold imp
          rw [hm]
          exact hR.2.2
  refine ci_of [vR 1, vU, vU] fy_Planner_improve.1 rfl (Nat.le_of_ble_eq_true rfl) ?_
  refine r_iconst d_Planner_improve_0 ?_
  refine r_istore_n 1 d_Planner_improve_1 rfl (by decide) rfl ?_
  exact key 0 (by omega) (by omega) σ hT hQ PF.rf (fun u u0 u1 => by omega)
