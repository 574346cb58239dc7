-- LEAST: weighPlan, extend, seekLeast (walks written by wip/whole/gen_lea.py)
theorem rrV {lev lev' k : Nat} {P : sto → Prop} (h : lev + 1 ≤ lev') (hk : Nat.ble (k + 19) 64 = true) : lev + 1 ≤ (rxV lev' P).1.frames ∧ 8 + (k + 11) + 64 * lev ≤ (rxV lev' P).1.locals := by
  have := Nat.le_of_ble_eq_true hk
  refine ⟨h, ?_⟩
  show 8 + (k + 11) + 64 * lev ≤ 64 * lev'
  omega
/-- the best plan of those seen -/
def BS (D : sto) (ns nv : Int) (σ : sto) (S : pln → Prop) : Prop := (σ 1 10 = -1 ∧ ∀ Q, VV D ns nv Q → ¬ S Q) ∨ ∃ L, VV D ns nv L ∧ PA σ 33 L ∧ σ 1 10 = mp D L nv ∧ σ 1 11 = szP L ∧ σ 1 12 = tot D nv L ∧ S L ∧ ∀ Q, VV D ns nv Q → S Q → ¬ lss D nv Q L
section BS
variable {D σ σ' : sto} {ns nv : Int} {S T : pln → Prop}
theorem BS.cg (h : BS D ns nv σ S) (g : ∀ Q, VV D ns nv Q → (S Q ↔ T Q)) : BS D ns nv σ T := by
  rcases h with h | ⟨L, h1, h2, h3, h4, h5, h6, h7⟩
  · exact Or.inl ⟨h.1, fun Q q z => h.2 Q q ((g Q q).mpr z)⟩
  · exact Or.inr ⟨L, h1, h2, h3, h4, h5, (g L h1).mp h6, fun Q q z => h7 Q q ((g Q q).mpr z)⟩
theorem BS.keep (h : BS D ns nv σ S) (g : ∀ c i : Int, (c = 1 ∨ 33 ≤ c ∧ c ≤ 38) → σ' c i = σ c i) : BS D ns nv σ' S := by
  rcases h with h | ⟨L, h1, h2, h3, h4, h5, h6, h7⟩
  · exact Or.inl ⟨by rw [g 1 10 (by omega)]; exact h.1, h.2⟩
  · exact Or.inr ⟨L, h1, h2.same (fun c i c0 c1 => g c i (by omega)), by rw [g 1 10 (by omega)]; exact h3, by rw [g 1 11 (by omega)]; exact h4, by rw [g 1 12 (by omega)]; exact h5, h6, h7⟩
end BS
theorem ct_weighPlan {σ D : sto} {ns nv c : Int} {P : pln} {S : pln → Prop} (hC : DC σ D ns nv) (hO : DOK D ns nv) (hQ : PA σ 27 P) (hV : VV D ns nv P) (hS : BS D ns nv σ S) (hlt : ∀ L, S L → lxp nv L P) (hc : c = tot D nv P) : CV M_Planner_weighPlan 2 [vR 1, vI c] σ (fun σ' => BS D ns nv σ' (fun Q => S Q ∨ Q = P) ∧ ∀ c i : Int, c ≠ 1 → (c < 33 ∨ 38 < c) → σ' c i = σ c i) := by
  have hn := hO.1
  have hRV := hV.1.rv hn.1 hn.2.1
  have mP := mp_in (D := D) (P := P) (fun v v0 v1 => (hRV v v0 v1).1) nv hn.2.2.1 hn.2.2.2
  have tP := tot_in hO hRV hV.2.1 nv hn.2.2.1 (by omega)
  have sP := hV.1.size hn.1
  have hsz : ln (P 0) + ln (P 1) + ln (P 2) = szP P := rfl
  rcases hS with ⟨h10, hno⟩ | ⟨L, hL, hA3, h10, h11, h12, hSL, hm⟩
  · refine cv_of [vR 1, vI c, vU, vU] fy_Planner_weighPlan.1 rfl (Nat.le_of_ble_eq_true rfl) ?_
    refine r_aload_n 0 d_Planner_weighPlan_0 rfl rfl ?_
    refine r_getR 2 d_Planner_weighPlan_1 fk_Planner_12 rfl rfl rfl (by decide) ?_
    refine r_aload_n 0 d_Planner_weighPlan_4 rfl rfl ?_
    refine r_getR 27 d_Planner_weighPlan_5 fk_Planner_31 rfl rfl rfl (by decide) ?_
    refine r_cVP 5 d_Planner_weighPlan_8 lk_Planner_126 vc_Trip_mustsIn (ct_mustsIn hC hO pl27 hQ hRV) rfl rfl rfl rfl ⟨Nat.le_of_ble_eq_true rfl, Nat.le_of_ble_eq_true rfl⟩ ⟨Nat.zero_le _, Nat.zero_le _⟩ (Nat.le_of_ble_eq_true rfl) ?_
    refine r_istore_n 2 d_Planner_weighPlan_11 rfl (by decide) rfl ?_
    refine r_aload_n 0 d_Planner_weighPlan_12 rfl rfl ?_
    refine r_getR 27 d_Planner_weighPlan_13 fk_Planner_31 rfl rfl rfl (by decide) ?_
    refine r_cVP 1 d_Planner_weighPlan_16 lk_Planner_130 vc_Plan_size (ct_size pl27 hQ) rfl rfl rfl rfl ⟨Nat.le_of_ble_eq_true rfl, Nat.le_of_ble_eq_true rfl⟩ ⟨Nat.zero_le _, Nat.zero_le _⟩ (Nat.le_of_ble_eq_true rfl) ?_
    refine r_istore_n 3 d_Planner_weighPlan_19 rfl (by decide) rfl ?_
    refine r_iload_n 2 d_Planner_weighPlan_20 rfl rfl ?_
    refine r_aload_n 0 d_Planner_weighPlan_21 rfl rfl ?_
    refine r_getI 10 d_Planner_weighPlan_22 fk_Planner_112 rfl rfl rfl ?_
    rw [h10]
    refine r_icmp_ge 29 d_Planner_weighPlan_25 rfl (by omega) (by omega) (fun h25 => ?_) (fun h25 => absurd h25 (by omega))
    refine r_iload_n 2 d_Planner_weighPlan_29 rfl rfl ?_
    refine r_aload_n 0 d_Planner_weighPlan_30 rfl rfl ?_
    refine r_getI 10 d_Planner_weighPlan_31 fk_Planner_112 rfl rfl rfl ?_
    rw [h10]
    refine r_icmp_ne 63 d_Planner_weighPlan_34 rfl (by omega) (by omega) (fun h34 => ?_) (fun h34 => absurd h34 (by omega))
    refine r_aload_n 0 d_Planner_weighPlan_63 rfl rfl ?_
    refine r_iload_n 2 d_Planner_weighPlan_64 rfl rfl ?_
    refine r_putI 10 d_Planner_weighPlan_65 fk_Planner_112 rfl rfl rfl (Or.inl rfl) ?_
    refine r_aload_n 0 d_Planner_weighPlan_68 rfl rfl ?_
    refine r_iload_n 3 d_Planner_weighPlan_69 rfl rfl ?_
    refine r_putI 11 d_Planner_weighPlan_70 fk_Planner_134 rfl rfl rfl (Or.inl rfl) ?_
    refine r_aload_n 0 d_Planner_weighPlan_73 rfl rfl ?_
    refine r_iload_n 1 d_Planner_weighPlan_74 rfl rfl ?_
    refine r_putI 12 d_Planner_weighPlan_75 fk_Planner_137 rfl rfl rfl (Or.inl rfl) ?_
    refine r_aload_n 0 d_Planner_weighPlan_78 rfl rfl ?_
    refine r_getR 33 d_Planner_weighPlan_79 fk_Planner_35 rfl rfl rfl (by decide) ?_
    refine r_aload_n 0 d_Planner_weighPlan_82 rfl rfl ?_
    refine r_getR 27 d_Planner_weighPlan_83 fk_Planner_31 rfl rfl rfl (by decide) ?_
    refine r_cVV 1 d_Planner_weighPlan_86 lk_Planner_118 vc_Plan_become (ct_become pl33 pl27 (by decide) (hQ.same (fun c i c0 c1 => by rw [wr_ne (by omega), wr_ne (by omega), wr_ne (by omega)]))) rfl rfl rfl rfl ⟨Nat.le_of_ble_eq_true rfl, Nat.le_of_ble_eq_true rfl⟩ ⟨Nat.zero_le _, Nat.zero_le _⟩ (Nat.le_of_ble_eq_true rfl) (fun s86 q86 => ?_)
    obtain ⟨a1, a2⟩ := q86
    refine q_vret d_Planner_weighPlan_89 rfl ?_
    refine ⟨Or.inr ⟨P, hV, a1, by rw [a2 1 10 (by omega), wr_ne (by omega), wr_ne (by omega), wr_eq], by rw [a2 1 11 (by omega), wr_ne (by omega), wr_eq]; exact hsz, by rw [a2 1 12 (by omega), wr_eq]; exact hc, Or.inr rfl, fun Q hQV hQ => ?_⟩, fun c i h1 h2 => by rw [a2 c i (by omega), wr_ne (Or.inl h1), wr_ne (Or.inl h1), wr_ne (Or.inl h1)]⟩
    rcases hQ with q | q
    · exact absurd q (hno Q hQV)
    · rw [q]; exact lss_ir
  · have hRL := hL.1.rv hn.1 hn.2.1
    have mL := mp_in (D := D) (P := L) (fun v v0 v1 => (hRL v v0 v1).1) nv hn.2.2.1 hn.2.2.2
    have tL := tot_in hO hRL hL.2.1 nv hn.2.2.1 (by omega)
    have sL := hL.1.size hn.1
    have kp : ¬ lsk D nv P L → BS D ns nv σ (fun Q => S Q ∨ Q = P) ∧ ∀ c i : Int, c ≠ 1 → (c < 33 ∨ 38 < c) → σ c i = σ c i := fun hk => by
      refine ⟨Or.inr ⟨L, hL, hA3, h10, h11, h12, Or.inl hSL, fun Q hQV hQ => ?_⟩, fun _ _ _ _ => rfl⟩
      rcases hQ with q | q
      · exact hm Q hQV q
      · rw [q]
        rintro (z | z)
        · exact hk z
        · exact lxp_as z.2.2.2 (hlt L hSL)
    have nw : ∀ σ' : sto, lsk D nv P L → PA σ' 33 P → σ' 1 10 = mp D P nv → σ' 1 11 = szP P → σ' 1 12 = tot D nv P → BS D ns nv σ' (fun Q => S Q ∨ Q = P) := fun σ' hk b1 b2 b3 b4 => by
      refine Or.inr ⟨P, hV, b1, b2, b3, b4, Or.inr rfl, fun Q hQV hQ z => ?_⟩
      rcases hQ with q | q
      · exact hm Q hQV q (Or.inl (lss_kt z hk))
      · rw [q] at z; exact lss_ir z
    refine cv_of [vR 1, vI c, vU, vU] fy_Planner_weighPlan.1 rfl (Nat.le_of_ble_eq_true rfl) ?_
    refine r_aload_n 0 d_Planner_weighPlan_0 rfl rfl ?_
    refine r_getR 2 d_Planner_weighPlan_1 fk_Planner_12 rfl rfl rfl (by decide) ?_
    refine r_aload_n 0 d_Planner_weighPlan_4 rfl rfl ?_
    refine r_getR 27 d_Planner_weighPlan_5 fk_Planner_31 rfl rfl rfl (by decide) ?_
    refine r_cVP 5 d_Planner_weighPlan_8 lk_Planner_126 vc_Trip_mustsIn (ct_mustsIn hC hO pl27 hQ hRV) rfl rfl rfl rfl ⟨Nat.le_of_ble_eq_true rfl, Nat.le_of_ble_eq_true rfl⟩ ⟨Nat.zero_le _, Nat.zero_le _⟩ (Nat.le_of_ble_eq_true rfl) ?_
    refine r_istore_n 2 d_Planner_weighPlan_11 rfl (by decide) rfl ?_
    refine r_aload_n 0 d_Planner_weighPlan_12 rfl rfl ?_
    refine r_getR 27 d_Planner_weighPlan_13 fk_Planner_31 rfl rfl rfl (by decide) ?_
    refine r_cVP 1 d_Planner_weighPlan_16 lk_Planner_130 vc_Plan_size (ct_size pl27 hQ) rfl rfl rfl rfl ⟨Nat.le_of_ble_eq_true rfl, Nat.le_of_ble_eq_true rfl⟩ ⟨Nat.zero_le _, Nat.zero_le _⟩ (Nat.le_of_ble_eq_true rfl) ?_
    refine r_istore_n 3 d_Planner_weighPlan_19 rfl (by decide) rfl ?_
    refine r_iload_n 2 d_Planner_weighPlan_20 rfl rfl ?_
    refine r_aload_n 0 d_Planner_weighPlan_21 rfl rfl ?_
    refine r_getI 10 d_Planner_weighPlan_22 fk_Planner_112 rfl rfl rfl ?_
    rw [h10]
    refine r_icmp_ge 29 d_Planner_weighPlan_25 rfl (by omega) (by omega) (fun h25 => ?_) (fun h25 => ?_)
    · refine r_iload_n 2 d_Planner_weighPlan_29 rfl rfl ?_
      refine r_aload_n 0 d_Planner_weighPlan_30 rfl rfl ?_
      refine r_getI 10 d_Planner_weighPlan_31 fk_Planner_112 rfl rfl rfl ?_
      rw [h10]
      refine r_icmp_ne 63 d_Planner_weighPlan_34 rfl (by omega) (by omega) (fun h34 => ?_) (fun h34 => ?_)
      · refine r_aload_n 0 d_Planner_weighPlan_63 rfl rfl ?_
        refine r_iload_n 2 d_Planner_weighPlan_64 rfl rfl ?_
        refine r_putI 10 d_Planner_weighPlan_65 fk_Planner_112 rfl rfl rfl (Or.inl rfl) ?_
        refine r_aload_n 0 d_Planner_weighPlan_68 rfl rfl ?_
        refine r_iload_n 3 d_Planner_weighPlan_69 rfl rfl ?_
        refine r_putI 11 d_Planner_weighPlan_70 fk_Planner_134 rfl rfl rfl (Or.inl rfl) ?_
        refine r_aload_n 0 d_Planner_weighPlan_73 rfl rfl ?_
        refine r_iload_n 1 d_Planner_weighPlan_74 rfl rfl ?_
        refine r_putI 12 d_Planner_weighPlan_75 fk_Planner_137 rfl rfl rfl (Or.inl rfl) ?_
        refine r_aload_n 0 d_Planner_weighPlan_78 rfl rfl ?_
        refine r_getR 33 d_Planner_weighPlan_79 fk_Planner_35 rfl rfl rfl (by decide) ?_
        refine r_aload_n 0 d_Planner_weighPlan_82 rfl rfl ?_
        refine r_getR 27 d_Planner_weighPlan_83 fk_Planner_31 rfl rfl rfl (by decide) ?_
        refine r_cVV 1 d_Planner_weighPlan_86 lk_Planner_118 vc_Plan_become (ct_become pl33 pl27 (by decide) (hQ.same (fun c i c0 c1 => by rw [wr_ne (by omega), wr_ne (by omega), wr_ne (by omega)]))) rfl rfl rfl rfl ⟨Nat.le_of_ble_eq_true rfl, Nat.le_of_ble_eq_true rfl⟩ ⟨Nat.zero_le _, Nat.zero_le _⟩ (Nat.le_of_ble_eq_true rfl) (fun s86 q86 => ?_)
        obtain ⟨a1, a2⟩ := q86
        refine q_vret d_Planner_weighPlan_89 rfl ?_
        exact ⟨nw _ (by unfold lsk; omega) a1 (by rw [a2 1 10 (by omega), wr_ne (by omega), wr_ne (by omega), wr_eq]) (by rw [a2 1 11 (by omega), wr_ne (by omega), wr_eq]; exact hsz) (by rw [a2 1 12 (by omega), wr_eq]; exact hc), fun c i h1 h2 => by rw [a2 c i (by omega), wr_ne (Or.inl h1), wr_ne (Or.inl h1), wr_ne (Or.inl h1)]⟩
      · refine r_iload_n 3 d_Planner_weighPlan_37 rfl rfl ?_
        refine r_aload_n 0 d_Planner_weighPlan_38 rfl rfl ?_
        refine r_getI 11 d_Planner_weighPlan_39 fk_Planner_134 rfl rfl rfl ?_
        rw [h11]
        refine r_icmp_ge 46 d_Planner_weighPlan_42 rfl (by omega) (by omega) (fun h42 => ?_) (fun h42 => ?_)
        · refine r_iload_n 3 d_Planner_weighPlan_46 rfl rfl ?_
          refine r_aload_n 0 d_Planner_weighPlan_47 rfl rfl ?_
          refine r_getI 11 d_Planner_weighPlan_48 fk_Planner_134 rfl rfl rfl ?_
          rw [h11]
          refine r_icmp_ne 63 d_Planner_weighPlan_51 rfl (by omega) (by omega) (fun h51 => ?_) (fun h51 => ?_)
          · refine r_aload_n 0 d_Planner_weighPlan_63 rfl rfl ?_
            refine r_iload_n 2 d_Planner_weighPlan_64 rfl rfl ?_
            refine r_putI 10 d_Planner_weighPlan_65 fk_Planner_112 rfl rfl rfl (Or.inl rfl) ?_
            refine r_aload_n 0 d_Planner_weighPlan_68 rfl rfl ?_
            refine r_iload_n 3 d_Planner_weighPlan_69 rfl rfl ?_
            refine r_putI 11 d_Planner_weighPlan_70 fk_Planner_134 rfl rfl rfl (Or.inl rfl) ?_
            refine r_aload_n 0 d_Planner_weighPlan_73 rfl rfl ?_
            refine r_iload_n 1 d_Planner_weighPlan_74 rfl rfl ?_
            refine r_putI 12 d_Planner_weighPlan_75 fk_Planner_137 rfl rfl rfl (Or.inl rfl) ?_
            refine r_aload_n 0 d_Planner_weighPlan_78 rfl rfl ?_
            refine r_getR 33 d_Planner_weighPlan_79 fk_Planner_35 rfl rfl rfl (by decide) ?_
            refine r_aload_n 0 d_Planner_weighPlan_82 rfl rfl ?_
            refine r_getR 27 d_Planner_weighPlan_83 fk_Planner_31 rfl rfl rfl (by decide) ?_
            refine r_cVV 1 d_Planner_weighPlan_86 lk_Planner_118 vc_Plan_become (ct_become pl33 pl27 (by decide) (hQ.same (fun c i c0 c1 => by rw [wr_ne (by omega), wr_ne (by omega), wr_ne (by omega)]))) rfl rfl rfl rfl ⟨Nat.le_of_ble_eq_true rfl, Nat.le_of_ble_eq_true rfl⟩ ⟨Nat.zero_le _, Nat.zero_le _⟩ (Nat.le_of_ble_eq_true rfl) (fun s86 q86 => ?_)
            obtain ⟨a1, a2⟩ := q86
            refine q_vret d_Planner_weighPlan_89 rfl ?_
            exact ⟨nw _ (by unfold lsk; omega) a1 (by rw [a2 1 10 (by omega), wr_ne (by omega), wr_ne (by omega), wr_eq]) (by rw [a2 1 11 (by omega), wr_ne (by omega), wr_eq]; exact hsz) (by rw [a2 1 12 (by omega), wr_eq]; exact hc), fun c i h1 h2 => by rw [a2 c i (by omega), wr_ne (Or.inl h1), wr_ne (Or.inl h1), wr_ne (Or.inl h1)]⟩
          · refine r_iload_n 1 d_Planner_weighPlan_54 rfl rfl ?_
            refine r_aload_n 0 d_Planner_weighPlan_55 rfl rfl ?_
            refine r_getI 12 d_Planner_weighPlan_56 fk_Planner_137 rfl rfl rfl ?_
            rw [h12]
            refine r_icmp_lt 63 d_Planner_weighPlan_59 rfl (by omega) (by omega) (fun h59 => ?_) (fun h59 => ?_)
            · refine r_aload_n 0 d_Planner_weighPlan_63 rfl rfl ?_
              refine r_iload_n 2 d_Planner_weighPlan_64 rfl rfl ?_
              refine r_putI 10 d_Planner_weighPlan_65 fk_Planner_112 rfl rfl rfl (Or.inl rfl) ?_
              refine r_aload_n 0 d_Planner_weighPlan_68 rfl rfl ?_
              refine r_iload_n 3 d_Planner_weighPlan_69 rfl rfl ?_
              refine r_putI 11 d_Planner_weighPlan_70 fk_Planner_134 rfl rfl rfl (Or.inl rfl) ?_
              refine r_aload_n 0 d_Planner_weighPlan_73 rfl rfl ?_
              refine r_iload_n 1 d_Planner_weighPlan_74 rfl rfl ?_
              refine r_putI 12 d_Planner_weighPlan_75 fk_Planner_137 rfl rfl rfl (Or.inl rfl) ?_
              refine r_aload_n 0 d_Planner_weighPlan_78 rfl rfl ?_
              refine r_getR 33 d_Planner_weighPlan_79 fk_Planner_35 rfl rfl rfl (by decide) ?_
              refine r_aload_n 0 d_Planner_weighPlan_82 rfl rfl ?_
              refine r_getR 27 d_Planner_weighPlan_83 fk_Planner_31 rfl rfl rfl (by decide) ?_
              refine r_cVV 1 d_Planner_weighPlan_86 lk_Planner_118 vc_Plan_become (ct_become pl33 pl27 (by decide) (hQ.same (fun c i c0 c1 => by rw [wr_ne (by omega), wr_ne (by omega), wr_ne (by omega)]))) rfl rfl rfl rfl ⟨Nat.le_of_ble_eq_true rfl, Nat.le_of_ble_eq_true rfl⟩ ⟨Nat.zero_le _, Nat.zero_le _⟩ (Nat.le_of_ble_eq_true rfl) (fun s86 q86 => ?_)
              obtain ⟨a1, a2⟩ := q86
              refine q_vret d_Planner_weighPlan_89 rfl ?_
              exact ⟨nw _ (by unfold lsk; omega) a1 (by rw [a2 1 10 (by omega), wr_ne (by omega), wr_ne (by omega), wr_eq]) (by rw [a2 1 11 (by omega), wr_ne (by omega), wr_eq]; exact hsz) (by rw [a2 1 12 (by omega), wr_eq]; exact hc), fun c i h1 h2 => by rw [a2 c i (by omega), wr_ne (Or.inl h1), wr_ne (Or.inl h1), wr_ne (Or.inl h1)]⟩
            · refine q_vret d_Planner_weighPlan_62 rfl ?_
              exact kp (by unfold lsk; omega)
        · refine q_vret d_Planner_weighPlan_45 rfl ?_
          exact kp (by unfold lsk; omega)
    · refine q_vret d_Planner_weighPlan_28 rfl ?_
      exact kp (by unfold lsk; omega)
def SL (D : sto) (ns nv : Int) (P : pln) (v : Int) (S : pln → Prop) (s : Int) (Q : pln) : Prop := S Q ∨ ∃ t, 0 ≤ t ∧ t < s ∧ t ∉ al3 P ∧ Cmp D ns nv (kid P v t) v Q
theorem ct_extend {D : sto} {ns nv B : Int} (hO : DOK D ns nv) (hB : B ≤ 4000) : ∀ n : Nat, ∀ {σ : sto} {P : pln} {v d sp : Int} {S : pln → Prop}, XS D ns nv P v → ns - szP P + (nv - 1 - v) ≤ n → 0 ≤ d → d + n ≤ 7 → sp = tot D v P → DC σ D ns nv → TC σ D B → PA σ 27 P → BS D ns nv σ S → (∀ L Q, S L → Cmp D ns nv P v Q → lxp nv L Q) → CV M_Planner_extend (5 + n) [vR 1, vI v, vI sp, vI d] σ (fun σ' => TC σ' D B ∧ PA σ' 27 P ∧ PF σ σ' ∧ BS D ns nv σ' (fun Q => S Q ∨ Cmp D ns nv P v Q)) := by
  intro n
  induction n using Nat.strongRecOn with
  | ind n ih =>
  intro σ P v d sp S hx hms d0 d1 hsp hC hT hQ hS hlt
  have hn := hO.1
  have hv := hx.2.1
  have hRV := hx.1.rv hn.1 hn.2.1
  have hRv := hRV v hv.1 (by omega)
  have hl0 := ln0 (P v)
  have hsz := hx.1.size hn.1
  have L : ∀ y co : Int, y = whyOf D v (P v) → (y = 0 → co = sp + cst D v (P v)) → ∀ s, 0 ≤ s → s ≤ ns → ∀ σ1 : sto, TC σ1 D B → PA σ1 27 P → PF σ σ1 → BS D ns nv σ1 (SL D ns nv P v S s) → Run M_Planner_extend (rxV (5 + n) (fun σ' => TC σ' D B ∧ PA σ' 27 P ∧ PF σ σ' ∧ BS D ns nv σ' (fun Q => S Q ∨ Cmp D ns nv P v Q))) (0, 0) 70 [vR 1, vI v, vI sp, vI d, vI y, vI co, vI (ln (P v)), vI s] [] (sg σ1) := by
    intro y co hy hco
    have hwi := whyOf_in D v (P v)
    refine up_ind (b := ns) ?_ ?_
    · intro σ1 hT1 hQ1 hF1 hS1
      have h9 := (hF1.dc hC).1
      have h18 := (hF1.dc hC).2.1
      have hend : ∀ L Q, SL D ns nv P v S ns L → (∀ u, 0 ≤ u → u < v + 1 → Q u = P u) → Cmp D ns nv P v Q → lxp nv L Q := by
        intro L Q h1 h2 h3
        rcases h1 with h1 | ⟨t, t0, t1, t2, t3⟩
        · exact hlt L Q h1 h3
        · exact t3.end h2 hv (by omega)
      refine r_iload 7 d_Planner_extend_70 rfl ?_
      refine r_aload_n 0 d_Planner_extend_72 rfl rfl ?_
      refine r_getR 9 d_Planner_extend_73 fk_Planner_22 rfl rfl rfl (by decide) ?_
      refine r_getI 0 d_Planner_extend_76 fk_Planner_42 rfl rfl rfl ?_
      rw [h9]
      refine r_icmp_ge 135 d_Planner_extend_79 rfl (by omega) (by omega) (fun h79 => ?_) (fun h79 => absurd h79 (by omega))
      refine r_iload 4 d_Planner_extend_135 rfl ?_
      refine r_if_eq 141 d_Planner_extend_137 rfl (by omega) (fun h137 => ?_) (fun h137 => ?_)
      · refine r_iload_n 1 d_Planner_extend_141 rfl rfl ?_
        refine r_iconst d_Planner_extend_142 ?_
        refine r_iadd d_Planner_extend_143 ?_
        refine r_aload_n 0 d_Planner_extend_144 rfl rfl ?_
        refine r_getR 18 d_Planner_extend_145 fk_Planner_27 rfl rfl rfl (by decide) ?_
        refine r_getI 0 d_Planner_extend_148 fk_Planner_55 rfl rfl rfl ?_
        rw [h18]
        refine r_icmp_ne 163 d_Planner_extend_151 rfl (by omega) (by omega) (fun h151 => ?_) (fun h151 => ?_)
        · refine r_aload_n 0 d_Planner_extend_163 rfl rfl ?_
          refine r_iload_n 1 d_Planner_extend_164 rfl rfl ?_
          refine r_iconst d_Planner_extend_165 ?_
          refine r_iadd d_Planner_extend_166 ?_
          refine r_iload 5 d_Planner_extend_167 rfl ?_
          refine r_iload_n 3 d_Planner_extend_169 rfl rfl ?_
          refine r_iconst d_Planner_extend_170 ?_
          refine r_iadd d_Planner_extend_171 ?_
          refine r_cVV 2 d_Planner_extend_172 lk_Planner_115 vc_Planner_extend (ih (n - 1) (by omega) (hx.next (by omega) (by omega)) (by omega) (by omega) (by omega) (by rw [hco (by omega), hsp, tot_s hv.1]) (hF1.dc hC) hT1 hQ1 hS1 (fun L Q hL hQ => hend L Q hL hQ.2.1 ((Cmp.next hx).mp hQ).1)) rfl rfl rfl rfl (rrV (by omega) rfl) ⟨Nat.zero_le _, Nat.zero_le _⟩ (Nat.le_of_ble_eq_true rfl) (fun s172 q172 => ?_)
          obtain ⟨a1, a2, a3, a4⟩ := q172
          refine q_vret d_Planner_extend_175 rfl ?_
          first
            | (refine ⟨hT1.keep (fun c i q => a2 c i (by omega) (by omega)), hQ1.same (fun c i c0 c1 => a2 c i (by omega) (by omega)), hF1.tr (fun c i q => a2 c i (by omega) (by omega)), a1.cg (fun Q hQV => ⟨fun h => ?_, fun h => ?_⟩)⟩
               · rcases h with (h | ⟨t, t0, t1, t2, t3⟩) | h
                 · exact Or.inl h
                 · exact Or.inr t3.up
                 · rw [h]; exact Or.inr ⟨hx.leaf (by omega) (by omega), fun _ _ _ => rfl, Int.le_refl _, fun _ _ _ => rfl⟩
               · rcases h with h | h
                 · exact Or.inl (Or.inl h)
                 · rcases h.split hx hO with q | ⟨t, t0, t1, t2, t3⟩
                   · refine Or.inr (hQV.ext (hx.leaf (by omega) (by omega)) (fun u u0 u1 => ?_))
                     by_cases e : u = v
                     · rw [e]; exact q
                     · exact h.2.1 u u0 (by omega)
                   · exact Or.inl (Or.inr ⟨t, t0, t1, t2, t3⟩))
            | (refine ⟨a1, a2, hF1.tr a3, a4.cg (fun Q hQV => ⟨fun h => ?_, fun h => ?_⟩)⟩
               · rcases h with (h | ⟨t, t0, t1, t2, t3⟩) | h
                 · exact Or.inl h
                 · exact Or.inr t3.up
                 · exact Or.inr ((Cmp.next hx).mp h).1
               · rcases h with h | h
                 · exact Or.inl (Or.inl h)
                 · rcases h.split hx hO with q | ⟨t, t0, t1, t2, t3⟩
                   · exact Or.inr ((Cmp.next hx).mpr ⟨h, q⟩)
                   · exact Or.inl (Or.inr ⟨t, t0, t1, t2, t3⟩))
        · refine r_aload_n 0 d_Planner_extend_154 rfl rfl ?_
          refine r_iload 5 d_Planner_extend_155 rfl ?_
          refine r_cVV 2 d_Planner_extend_157 lk_Planner_122 vc_Planner_weighPlan (ct_weighPlan (hF1.dc hC) hO hQ1 (hx.leaf (by omega) (by omega)) hS1 (fun L hL => hend L P hL (fun _ _ _ => rfl) ⟨hx.leaf (by omega) (by omega), fun _ _ _ => rfl, Int.le_refl _, fun _ _ _ => rfl⟩) (by rw [hco (by omega), hsp, ← tot_s hv.1, h151])) rfl rfl rfl rfl (rrV (by omega) rfl) ⟨Nat.zero_le _, Nat.zero_le _⟩ (Nat.le_of_ble_eq_true rfl) (fun s157 q157 => ?_)
          obtain ⟨a1, a2⟩ := q157
          refine r_goto 175 d_Planner_extend_160 rfl ?_
          refine q_vret d_Planner_extend_175 rfl ?_
          first
            | (refine ⟨hT1.keep (fun c i q => a2 c i (by omega) (by omega)), hQ1.same (fun c i c0 c1 => a2 c i (by omega) (by omega)), hF1.tr (fun c i q => a2 c i (by omega) (by omega)), a1.cg (fun Q hQV => ⟨fun h => ?_, fun h => ?_⟩)⟩
               · rcases h with (h | ⟨t, t0, t1, t2, t3⟩) | h
                 · exact Or.inl h
                 · exact Or.inr t3.up
                 · rw [h]; exact Or.inr ⟨hx.leaf (by omega) (by omega), fun _ _ _ => rfl, Int.le_refl _, fun _ _ _ => rfl⟩
               · rcases h with h | h
                 · exact Or.inl (Or.inl h)
                 · rcases h.split hx hO with q | ⟨t, t0, t1, t2, t3⟩
                   · refine Or.inr (hQV.ext (hx.leaf (by omega) (by omega)) (fun u u0 u1 => ?_))
                     by_cases e : u = v
                     · rw [e]; exact q
                     · exact h.2.1 u u0 (by omega)
                   · exact Or.inl (Or.inr ⟨t, t0, t1, t2, t3⟩))
            | (refine ⟨a1, a2, hF1.tr a3, a4.cg (fun Q hQV => ⟨fun h => ?_, fun h => ?_⟩)⟩
               · rcases h with (h | ⟨t, t0, t1, t2, t3⟩) | h
                 · exact Or.inl h
                 · exact Or.inr t3.up
                 · exact Or.inr ((Cmp.next hx).mp h).1
               · rcases h with h | h
                 · exact Or.inl (Or.inl h)
                 · rcases h.split hx hO with q | ⟨t, t0, t1, t2, t3⟩
                   · exact Or.inr ((Cmp.next hx).mpr ⟨h, q⟩)
                   · exact Or.inl (Or.inr ⟨t, t0, t1, t2, t3⟩))
      · refine q_vret d_Planner_extend_140 rfl ?_
        refine ⟨hT1, hQ1, hF1, hS1.cg (fun Q hQV => ⟨fun h => ?_, fun h => ?_⟩)⟩
        · rcases h with h | ⟨t, t0, t1, t2, t3⟩
          · exact Or.inl h
          · exact Or.inr t3.up
        · rcases h with h | h
          · exact Or.inl h
          · rcases h.split hx hO with q | ⟨t, t0, t1, t2, t3⟩
            · have := hQV.2.1 v hv.1 hv.2
              rw [q] at this
              omega
            · exact Or.inr ⟨t, t0, t1, t2, t3⟩
    · intro s s0 s1 ihs σ1 hT1 hQ1 hF1 hS1
      have h9 := (hF1.dc hC).1
      have hvr : -1 ≤ vanOf P s ∧ vanOf P s < 3 := by rcases vanOf_cases P s with ⟨v, a, b, -, -, c, -⟩ | ⟨-, c, -⟩ <;> omega
      have k129 : ∀ σ2 : sto, TC σ2 D B → PA σ2 27 P → PF σ σ2 → BS D ns nv σ2 (SL D ns nv P v S (s + 1)) → Run M_Planner_extend (rxV (5 + n) (fun σ' => TC σ' D B ∧ PA σ' 27 P ∧ PF σ σ' ∧ BS D ns nv σ' (fun Q => S Q ∨ Cmp D ns nv P v Q))) (0, 0) 129 [vR 1, vI v, vI sp, vI d, vI y, vI co, vI (ln (P v)), vI s] [] (sg σ2) := by
        intro σ2 hT2 hQ2 hF2 hS2
        refine r_iinc 7 d_Planner_extend_129 rfl (by decide) rfl ?_
        refine r_goto 70 d_Planner_extend_132 rfl ?_
        exact ihs σ2 hT2 hQ2 hF2 hS2
      refine r_iload 7 d_Planner_extend_70 rfl ?_
      refine r_aload_n 0 d_Planner_extend_72 rfl rfl ?_
      refine r_getR 9 d_Planner_extend_73 fk_Planner_22 rfl rfl rfl (by decide) ?_
      refine r_getI 0 d_Planner_extend_76 fk_Planner_42 rfl rfl rfl ?_
      rw [h9]
      refine r_icmp_ge 135 d_Planner_extend_79 rfl (by omega) (by omega) (fun h79 => absurd h79 (by omega)) (fun h79 => ?_)
      refine r_aload_n 0 d_Planner_extend_82 rfl rfl ?_
      refine r_getR 27 d_Planner_extend_83 fk_Planner_31 rfl rfl rfl (by decide) ?_
      refine r_iload 7 d_Planner_extend_86 rfl ?_
      refine r_cVP 1 d_Planner_extend_88 lk_Planner_51 vc_Plan_vanWith (ct_vanWith pl27 hQ1 (by omega)) rfl rfl rfl rfl (rrV (by omega) rfl) ⟨Nat.zero_le _, Nat.zero_le _⟩ (Nat.le_of_ble_eq_true rfl) ?_
      refine r_iconst d_Planner_extend_91 ?_
      refine r_icmp_eq 98 d_Planner_extend_92 rfl (by omega) (by omega) (fun h92 => ?_) (fun h92 => ?_)
      · have hs : s ∉ al3 P := vanOf_no.mp h92
        obtain ⟨x1, x2, x3⟩ := hx.kid hO s0 s1 hs
        have hzk := x1.1.size hn.1
        refine r_aload_n 0 d_Planner_extend_98 rfl rfl ?_
        refine r_getR 27 d_Planner_extend_99 fk_Planner_31 rfl rfl rfl (by decide) ?_
        refine r_iload_n 1 d_Planner_extend_102 rfl rfl ?_
        refine r_iload 6 d_Planner_extend_103 rfl ?_
        refine r_iload 7 d_Planner_extend_105 rfl ?_
        refine r_cVV 1 d_Planner_extend_107 lk_Planner_72 vc_Plan_insert (ct_insert pl27 hQ1 hv.1 (by omega) hl0 (Int.le_refl _) x3 s0 (by omega)) rfl rfl rfl rfl (rrV (by omega) rfl) ⟨Nat.zero_le _, Nat.zero_le _⟩ (Nat.le_of_ble_eq_true rfl) (fun s107 q107 => ?_)
        obtain ⟨a1, a2⟩ := q107
        have hQ3 : PA s107 27 (kid P v s) := a1
        have hF3 := hF1.tr a2.pf
        have hS3 := hS1.keep (σ' := s107) (fun c i q => a2 c i (by omega))
        refine r_aload_n 0 d_Planner_extend_110 rfl rfl ?_
        refine r_iload_n 1 d_Planner_extend_111 rfl rfl ?_
        refine r_iload_n 2 d_Planner_extend_112 rfl rfl ?_
        refine r_iload_n 3 d_Planner_extend_113 rfl rfl ?_
        refine r_iconst d_Planner_extend_114 ?_
        refine r_iadd d_Planner_extend_115 ?_
        refine r_cVV 2 d_Planner_extend_116 lk_Planner_115 vc_Planner_extend (ih (n - 1) (by omega) x1 (by omega) (by omega) (by omega) (by rw [hsp]; unfold tot kid; rw [totN_up hv.1, if_neg (by omega)]; omega) (hF3.dc hC) (a2.tc pl27 hT1) hQ3 hS3 (fun L Q hL hQ => hL.elim (fun hL => hlt L Q hL hQ.up) (fun ⟨t, t0, t1, t2, t3⟩ => t3.lt hQ hv t1))) rfl rfl rfl rfl (rrV (by omega) rfl) ⟨Nat.zero_le _, Nat.zero_le _⟩ (Nat.le_of_ble_eq_true rfl) (fun s116 q116 => ?_)
        obtain ⟨b1, b2, b3, b4⟩ := q116
        refine r_aload_n 0 d_Planner_extend_119 rfl rfl ?_
        refine r_getR 27 d_Planner_extend_120 fk_Planner_31 rfl rfl rfl (by decide) ?_
        refine r_iload_n 1 d_Planner_extend_123 rfl rfl ?_
        refine r_iload 6 d_Planner_extend_124 rfl ?_
        refine r_cVV 1 d_Planner_extend_126 lk_Planner_96 vc_Plan_removeAt (ct_removeAt pl27 b2 hv.1 (by omega) hl0 (by unfold kid; rw [up_eq, ln_ins]; omega)) rfl rfl rfl rfl (rrV (by omega) rfl) ⟨Nat.zero_le _, Nat.zero_le _⟩ (Nat.le_of_ble_eq_true rfl) (fun s126 q126 => ?_)
        obtain ⟨c1, c2⟩ := q126
        unfold kid at c1
        rw [up_eq, del_ins hl0 (Int.le_refl _), up_up, up_self] at c1
        first
          | (refine k129 _ hT1 hQ1 hF1 (hS1.cg (fun Q hQV => ⟨fun h => ?_, fun h => ?_⟩))
             · rcases h with h | ⟨t, t0, t1, t2, t3⟩
               · exact Or.inl h
               · exact Or.inr ⟨t, t0, by omega, t2, t3⟩
             · rcases h with h | ⟨t, t0, t1, t2, t3⟩
               · exact Or.inl h
               · by_cases e : t = s
                 · rw [e] at t2; exact absurd (vanOf_no.mpr t2) h92
                 · exact Or.inr ⟨t, t0, by omega, t2, t3⟩)
          | (refine k129 _ (c2.tc pl27 b1) c1 ((hF3.tr b3).tr c2.pf) ((b4.keep (fun c i q => c2 c i (by omega))).cg (fun Q hQV => ⟨fun h => ?_, fun h => ?_⟩))
             · rcases h with (h | ⟨t, t0, t1, t2, t3⟩) | h
               · exact Or.inl h
               · exact Or.inr ⟨t, t0, by omega, t2, t3⟩
               · exact Or.inr ⟨s, s0, by omega, hs, h⟩
             · rcases h with h | ⟨t, t0, t1, t2, t3⟩
               · exact Or.inl (Or.inl h)
               · by_cases e : t = s
                 · rw [e] at t3; exact Or.inr t3
                 · exact Or.inl (Or.inr ⟨t, t0, by omega, t2, t3⟩))
      · refine r_goto 129 d_Planner_extend_95 rfl ?_
        first
          | (refine k129 _ hT1 hQ1 hF1 (hS1.cg (fun Q hQV => ⟨fun h => ?_, fun h => ?_⟩))
             · rcases h with h | ⟨t, t0, t1, t2, t3⟩
               · exact Or.inl h
               · exact Or.inr ⟨t, t0, by omega, t2, t3⟩
             · rcases h with h | ⟨t, t0, t1, t2, t3⟩
               · exact Or.inl h
               · by_cases e : t = s
                 · rw [e] at t2; exact absurd (vanOf_no.mpr t2) h92
                 · exact Or.inr ⟨t, t0, by omega, t2, t3⟩)
          | (refine k129 _ (c2.tc pl27 b1) c1 ((hF3.tr b3).tr c2.pf) ((b4.keep (fun c i q => c2 c i (by omega))).cg (fun Q hQV => ⟨fun h => ?_, fun h => ?_⟩))
             · rcases h with (h | ⟨t, t0, t1, t2, t3⟩) | h
               · exact Or.inl h
               · exact Or.inr ⟨t, t0, by omega, t2, t3⟩
               · exact Or.inr ⟨s, s0, by omega, hs, h⟩
             · rcases h with h | ⟨t, t0, t1, t2, t3⟩
               · exact Or.inl (Or.inl h)
               · by_cases e : t = s
                 · rw [e] at t3; exact Or.inr t3
                 · exact Or.inl (Or.inr ⟨t, t0, by omega, t2, t3⟩))
  have h18 := hC.2.1
  refine cv_of [vR 1, vI v, vI sp, vI d, vU, vU, vU, vU] fy_Planner_extend.1 rfl (Nat.le_of_ble_eq_true rfl) ?_
  refine r_iload_n 1 d_Planner_extend_0 rfl rfl ?_
  refine r_aload_n 0 d_Planner_extend_1 rfl rfl ?_
  refine r_getR 18 d_Planner_extend_2 fk_Planner_27 rfl rfl rfl (by decide) ?_
  refine r_getI 0 d_Planner_extend_5 fk_Planner_55 rfl rfl rfl ?_
  rw [h18]
  refine r_icmp_ge 17 d_Planner_extend_8 rfl (by omega) (by omega) (fun h8 => absurd h8 (by omega)) (fun h8 => ?_)
  refine r_iload_n 3 d_Planner_extend_11 rfl rfl ?_
  refine r_bipush d_Planner_extend_12 (by decide) ?_
  refine r_icmp_le 18 d_Planner_extend_14 rfl (by omega) (by omega) (fun h14 => ?_) (fun h14 => absurd h14 (by omega))
  refine r_aload_n 0 d_Planner_extend_18 rfl rfl ?_
  refine r_getR 2 d_Planner_extend_19 fk_Planner_12 rfl rfl rfl (by decide) ?_
  refine r_aload_n 0 d_Planner_extend_22 rfl rfl ?_
  refine r_getR 27 d_Planner_extend_23 fk_Planner_31 rfl rfl rfl (by decide) ?_
  refine r_iload_n 1 d_Planner_extend_26 rfl rfl ?_
  refine r_cVI 5 d_Planner_extend_27 lk_Planner_82 vc_Trip_judge (ct_judge hC hO hT hB pl27 hQ hv.1 hv.2 hRv) rfl rfl rfl rfl (rrV (by omega) rfl) ⟨Nat.zero_le _, Nat.zero_le _⟩ (Nat.le_of_ble_eq_true rfl) (fun r27 s27 q27 => ?_)
  obtain ⟨e7, -, hT7, hJ7, hN7⟩ := q27
  have hQ7 := hJ7.pa pl27 hQ
  have hwi := whyOf_in D v (P v)
  have hz7 := (hQ7.len hv.1 (show v < 3 by omega)).1
  have hS7 := hS.keep (σ' := s27) (fun c i q => hJ7 c i (by omega) (by omega) (by omega) (by omega))
  refine r_istore 4 d_Planner_extend_30 (by decide) rfl ?_
  refine r_iload 4 d_Planner_extend_32 rfl ?_
  refine r_iconst d_Planner_extend_34 ?_
  refine r_icmp_eq 44 d_Planner_extend_35 rfl (by omega) (by omega) (fun h35 => ?_) (fun h35 => ?_)
  · refine q_vret d_Planner_extend_44 rfl ?_
    refine ⟨hT7, hQ7, hJ7.pf, hS7.cg (fun Q hQV => ⟨Or.inl, fun h => h.resolve_right (fun q => ?_)⟩)⟩
    exact q.2.2.no hO ((hQV.1.rv hn.1 hn.2.1) v hv.1 (by omega)) (by omega) (hQV.2.1 v hv.1 hv.2)
  · refine r_iload 4 d_Planner_extend_38 rfl ?_
    refine r_iconst d_Planner_extend_40 ?_
    refine r_icmp_ne 45 d_Planner_extend_41 rfl (by omega) (by omega) (fun h41 => ?_) (fun h41 => ?_)
    · refine r_iload_n 2 d_Planner_extend_45 rfl rfl ?_
      refine r_aload_n 0 d_Planner_extend_46 rfl rfl ?_
      refine r_getR 2 d_Planner_extend_47 fk_Planner_12 rfl rfl rfl (by decide) ?_
      refine r_getI 9 d_Planner_extend_50 fk_Planner_86 rfl rfl rfl ?_
      refine r_iadd d_Planner_extend_53 ?_
      refine r_istore 5 d_Planner_extend_54 (by decide) rfl ?_
      refine r_aload_n 0 d_Planner_extend_56 rfl rfl ?_
      refine r_getR 27 d_Planner_extend_57 fk_Planner_31 rfl rfl rfl (by decide) ?_
      refine r_getR 32 d_Planner_extend_60 fk_Planner_89 rfl rfl rfl (by decide) ?_
      refine r_iload_n 1 d_Planner_extend_63 rfl rfl ?_
      refine r_iald 3 d_Planner_extend_64 rfl rfl (by omega) (by omega) ?_
      rw [show (27 : Int) + 5 = 32 from rfl] at hz7
      rw [hz7]
      refine r_istore 6 d_Planner_extend_65 (by decide) rfl ?_
      refine r_iconst d_Planner_extend_67 ?_
      refine r_istore 7 d_Planner_extend_68 (by decide) rfl ?_
      refine L r27 _ e7 (fun h => by rw [(hN7 h).1]) 0 (by omega) hn.1 _ hT7 hQ7 hJ7.pf (hS7.cg (fun Q hQV => ⟨Or.inl, fun h => h.resolve_right (fun q => ?_)⟩))
      obtain ⟨t, t0, t1, -⟩ := q
      omega
    · refine q_vret d_Planner_extend_44 rfl ?_
      refine ⟨hT7, hQ7, hJ7.pf, hS7.cg (fun Q hQV => ⟨Or.inl, fun h => h.resolve_right (fun q => ?_)⟩)⟩
      exact q.2.2.no hO ((hQV.1.rv hn.1 hn.2.1) v hv.1 (by omega)) (by omega) (hQV.2.1 v hv.1 hv.2)
theorem XS.nil {D : sto} {ns nv : Int} (h : 0 < nv) : XS D ns nv (fun _ => []) 0 := ⟨⟨List.nodup_nil, fun s hs => (by cases hs), fun _ _ _ _ => rfl⟩, by omega, fun u u0 u1 => (by omega), fun _ _ => rfl⟩
theorem why_nil {D : sto} {v : Int} : whyOf D v [] = 0 := if_pos rfl
theorem VV.nil {D : sto} {ns nv : Int} : VV D ns nv (fun _ => []) := ⟨⟨List.nodup_nil, fun s hs => (by cases hs), fun _ _ _ _ => rfl⟩, fun _ _ _ => why_nil, fun _ _ => rfl⟩
theorem Cmp.nil {D : sto} {ns nv : Int} {Q : pln} (h : VV D ns nv Q) : Cmp D ns nv (fun _ => []) 0 Q := ⟨h, fun u u0 u1 => (by omega), ln0 _, fun i i0 i1 => (by have : i < 0 := i1; omega)⟩
theorem ct_extend0 {σ D : sto} {ns : Int} (hC : DC σ D ns 0) : CV M_Planner_extend 5 [vR 1, vI 0, vI 0, vI 0] σ (fun σ' => σ' = σ) := by
  have h18 := hC.2.1
  refine cv_of [vR 1, vI 0, vI 0, vI 0, vU, vU, vU, vU] fy_Planner_extend.1 rfl (Nat.le_of_ble_eq_true rfl) ?_
  refine r_iload_n 1 d_Planner_extend_0 rfl rfl ?_
  refine r_aload_n 0 d_Planner_extend_1 rfl rfl ?_
  refine r_getR 18 d_Planner_extend_2 fk_Planner_27 rfl rfl rfl (by decide) ?_
  refine r_getI 0 d_Planner_extend_5 fk_Planner_55 rfl rfl rfl ?_
  rw [h18]
  refine r_icmp_ge 17 d_Planner_extend_8 rfl (by omega) (by omega) (fun h8 => ?_) (fun h8 => absurd h8 (by omega))
  refine q_vret d_Planner_extend_17 rfl ?_
  rfl
theorem ct_seekLeast {σ D : sto} {ns nv B : Int} (hC : DC σ D ns nv) (hO : DOK D ns nv) (hT : TC σ D B) (hB : B ≤ 4000) (h5 : ns ≤ 5) (h2 : nv ≤ 2) : CV M_Planner_seekLeast 12 [vR 1] σ (fun σ' => TC σ' D B ∧ PF σ σ' ∧ ∃ L, LST D ns nv L ∧ PA σ' 27 L) := by
  have hn := hO.1
  by_cases h0 : 0 < nv
  · refine cv_of [vR 1] fy_Planner_seekLeast.1 rfl (Nat.le_of_ble_eq_true rfl) ?_
    refine r_aload_n 0 d_Planner_seekLeast_0 rfl rfl ?_
    refine r_getR 33 d_Planner_seekLeast_1 fk_Planner_35 rfl rfl rfl (by decide) ?_
    refine r_cVV 1 d_Planner_seekLeast_4 lk_Planner_109 vc_Plan_empty (ct_empty pl33) rfl rfl rfl rfl ⟨Nat.le_of_ble_eq_true rfl, Nat.le_of_ble_eq_true rfl⟩ ⟨Nat.zero_le _, Nat.zero_le _⟩ (Nat.le_of_ble_eq_true rfl) (fun s4 q4 => ?_)
    obtain ⟨a1, a2⟩ := q4
    refine r_aload_n 0 d_Planner_seekLeast_7 rfl rfl ?_
    refine r_iconst d_Planner_seekLeast_8 ?_
    refine r_putI 10 d_Planner_seekLeast_9 fk_Planner_112 rfl rfl rfl (Or.inl rfl) ?_
    refine r_aload_n 0 d_Planner_seekLeast_12 rfl rfl ?_
    refine r_getR 27 d_Planner_seekLeast_13 fk_Planner_31 rfl rfl rfl (by decide) ?_
    refine r_cVV 1 d_Planner_seekLeast_16 lk_Planner_109 vc_Plan_empty (ct_empty (σ := wr s4 1 10 (-1)) pl27) rfl rfl rfl rfl ⟨Nat.le_of_ble_eq_true rfl, Nat.le_of_ble_eq_true rfl⟩ ⟨Nat.zero_le _, Nat.zero_le _⟩ (Nat.le_of_ble_eq_true rfl) (fun s16 q16 => ?_)
    obtain ⟨b1, b2⟩ := q16
    have hF2 : PF σ s16 := fun c i q => by rw [b2 c i (by omega), wr_ne (by omega), a2 c i (by omega)]
    have hT2 : TC s16 D B := hT.keep (fun c i q => by rw [b2 c i (by omega), wr_ne (by omega), a2 c i (by omega)])
    have h10 : s16 1 10 = -1 := by rw [b2 1 10 (by omega), wr_eq]
    refine r_aload_n 0 d_Planner_seekLeast_19 rfl rfl ?_
    refine r_iconst d_Planner_seekLeast_20 ?_
    refine r_iconst d_Planner_seekLeast_21 ?_
    refine r_iconst d_Planner_seekLeast_22 ?_
    refine r_cVV 2 d_Planner_seekLeast_23 lk_Planner_115 vc_Planner_extend (ct_extend hO hB 6 (S := fun _ => False) (XS.nil h0) (by show ns - 0 + (nv - 1 - 0) ≤ ((6 : Nat) : Int); omega) (by omega) (by decide) rfl (hF2.dc hC) hT2 b1 (Or.inl ⟨h10, fun _ _ q => q⟩) (fun _ _ q _ => q.elim)) rfl rfl rfl rfl ⟨Nat.le_of_ble_eq_true rfl, Nat.le_of_ble_eq_true rfl⟩ ⟨Nat.zero_le _, Nat.zero_le _⟩ (Nat.le_of_ble_eq_true rfl) (fun s23 q23 => ?_)
    obtain ⟨c1, c2, c3, c4⟩ := q23
    obtain ⟨L, l1, l2, -, -, -, l3, l4⟩ := c4.resolve_left (fun q => q.2 _ VV.nil (Or.inr (Cmp.nil VV.nil)))
    refine r_aload_n 0 d_Planner_seekLeast_26 rfl rfl ?_
    refine r_getR 27 d_Planner_seekLeast_27 fk_Planner_31 rfl rfl rfl (by decide) ?_
    refine r_aload_n 0 d_Planner_seekLeast_30 rfl rfl ?_
    refine r_getR 33 d_Planner_seekLeast_31 fk_Planner_35 rfl rfl rfl (by decide) ?_
    refine r_cVV 1 d_Planner_seekLeast_34 lk_Planner_118 vc_Plan_become (ct_become pl27 pl33 (by decide) l2) rfl rfl rfl rfl ⟨Nat.le_of_ble_eq_true rfl, Nat.le_of_ble_eq_true rfl⟩ ⟨Nat.zero_le _, Nat.zero_le _⟩ (Nat.le_of_ble_eq_true rfl) (fun s34 q34 => ?_)
    obtain ⟨d1, d2⟩ := q34
    refine q_vret d_Planner_seekLeast_37 rfl ?_
    exact ⟨d2.tc pl27 c1, (hF2.tr c3).tr d2.pf, L, ⟨l1, fun Q hQV => l4 Q hQV (Or.inr (Cmp.nil hQV))⟩, d1⟩
  · have e0 : nv = 0 := by omega
    subst e0
    refine cv_of [vR 1] fy_Planner_seekLeast.1 rfl (Nat.le_of_ble_eq_true rfl) ?_
    refine r_aload_n 0 d_Planner_seekLeast_0 rfl rfl ?_
    refine r_getR 33 d_Planner_seekLeast_1 fk_Planner_35 rfl rfl rfl (by decide) ?_
    refine r_cVV 1 d_Planner_seekLeast_4 lk_Planner_109 vc_Plan_empty (ct_empty pl33) rfl rfl rfl rfl ⟨Nat.le_of_ble_eq_true rfl, Nat.le_of_ble_eq_true rfl⟩ ⟨Nat.zero_le _, Nat.zero_le _⟩ (Nat.le_of_ble_eq_true rfl) (fun s4 q4 => ?_)
    obtain ⟨a1, a2⟩ := q4
    refine r_aload_n 0 d_Planner_seekLeast_7 rfl rfl ?_
    refine r_iconst d_Planner_seekLeast_8 ?_
    refine r_putI 10 d_Planner_seekLeast_9 fk_Planner_112 rfl rfl rfl (Or.inl rfl) ?_
    refine r_aload_n 0 d_Planner_seekLeast_12 rfl rfl ?_
    refine r_getR 27 d_Planner_seekLeast_13 fk_Planner_31 rfl rfl rfl (by decide) ?_
    refine r_cVV 1 d_Planner_seekLeast_16 lk_Planner_109 vc_Plan_empty (ct_empty (σ := wr s4 1 10 (-1)) pl27) rfl rfl rfl rfl ⟨Nat.le_of_ble_eq_true rfl, Nat.le_of_ble_eq_true rfl⟩ ⟨Nat.zero_le _, Nat.zero_le _⟩ (Nat.le_of_ble_eq_true rfl) (fun s16 q16 => ?_)
    obtain ⟨b1, b2⟩ := q16
    have hF2 : PF σ s16 := fun c i q => by rw [b2 c i (by omega), wr_ne (by omega), a2 c i (by omega)]
    have hT2 : TC s16 D B := hT.keep (fun c i q => by rw [b2 c i (by omega), wr_ne (by omega), a2 c i (by omega)])
    have h10 : s16 1 10 = -1 := by rw [b2 1 10 (by omega), wr_eq]
    refine r_aload_n 0 d_Planner_seekLeast_19 rfl rfl ?_
    refine r_iconst d_Planner_seekLeast_20 ?_
    refine r_iconst d_Planner_seekLeast_21 ?_
    refine r_iconst d_Planner_seekLeast_22 ?_
    refine r_cVV 2 d_Planner_seekLeast_23 lk_Planner_115 vc_Planner_extend (ct_extend0 (hF2.dc hC)) rfl rfl rfl rfl ⟨Nat.le_of_ble_eq_true rfl, Nat.le_of_ble_eq_true rfl⟩ ⟨Nat.zero_le _, Nat.zero_le _⟩ (Nat.le_of_ble_eq_true rfl) (fun s23 q23 => ?_)
    subst q23
    refine r_aload_n 0 d_Planner_seekLeast_26 rfl rfl ?_
    refine r_getR 27 d_Planner_seekLeast_27 fk_Planner_31 rfl rfl rfl (by decide) ?_
    refine r_aload_n 0 d_Planner_seekLeast_30 rfl rfl ?_
    refine r_getR 33 d_Planner_seekLeast_31 fk_Planner_35 rfl rfl rfl (by decide) ?_
    refine r_cVV 1 d_Planner_seekLeast_34 lk_Planner_118 vc_Plan_become (ct_become pl27 pl33 (by decide) (a1.same (fun c i c0 c1 => by rw [b2 c i (by omega), wr_ne (by omega)]))) rfl rfl rfl rfl ⟨Nat.le_of_ble_eq_true rfl, Nat.le_of_ble_eq_true rfl⟩ ⟨Nat.zero_le _, Nat.zero_le _⟩ (Nat.le_of_ble_eq_true rfl) (fun s34 q34 => ?_)
    obtain ⟨d1, d2⟩ := q34
    refine q_vret d_Planner_seekLeast_37 rfl ?_
    refine ⟨d2.tc pl27 hT2, hF2.tr d2.pf, _, ⟨VV.nil, fun Q hQV z => ?_⟩, d1⟩
    have : Q = fun _ => [] := hQV.ext VV.nil (fun u u0 u1 => by omega)
    rw [this] at z
    exact lss_ir z
