-- THE REFERENCE: plans, pairs, loads (walks written by wip/whole/gen_ref.py)
def DR (σ D : sto) (ns nv : Int) : Prop := σ 169 13 = ns ∧ σ 169 14 = nv ∧ (∀ s, 0 ≤ s → s < 12 → σ 171 s = D 0 s ∧ σ 172 s = D 1 s ∧ σ 173 s = D 2 s ∧ σ 174 s = D 3 s ∧ σ 175 s = D 4 s ∧ σ 177 s = D 6 s ∧ σ 178 s = D 7 s) ∧ (∀ s, 0 ≤ s → s < ns → σ 176 s = D 5 s) ∧ (∀ v, 0 ≤ v → v < 3 → σ 179 v = D 8 v ∧ σ 180 v = D 9 v ∧ σ 181 v = D 10 v ∧ σ 182 v = D 11 v) ∧ SR σ D
theorem DR.at {σ D : sto} {ns nv : Int} (h : DR σ D ns nv) {s : Int} (s0 : 0 ≤ s) (s1 : s < 12) : σ 171 s = D 0 s ∧ σ 172 s = D 1 s ∧ σ 173 s = D 2 s ∧ σ 174 s = D 3 s ∧ σ 175 s = D 4 s ∧ σ 177 s = D 6 s ∧ σ 178 s = D 7 s := h.2.2.1 s s0 s1
theorem DR.am {σ D : sto} {ns nv : Int} (h : DR σ D ns nv) {s : Int} (s0 : 0 ≤ s) (s1 : s < ns) : σ 176 s = D 5 s := h.2.2.2.1 s s0 s1
theorem DR.van {σ D : sto} {ns nv : Int} (h : DR σ D ns nv) {v : Int} (v0 : 0 ≤ v) (v1 : v < 3) : σ 179 v = D 8 v ∧ σ 180 v = D 9 v ∧ σ 181 v = D 10 v ∧ σ 182 v = D 11 v := h.2.2.2.2.1 v v0 v1
theorem DR.keep {σ σ' D : sto} {ns nv : Int} (h : DR σ D ns nv) (hF : ∀ c i : Int, (c = 169 ∧ (i = 13 ∨ i = 14) ∨ 170 ≤ c ∧ c ≤ 182) → σ' c i = σ c i) : DR σ' D ns nv := by
  obtain ⟨h1, h2, h3, h4, h5, h6⟩ := h
  refine ⟨by rw [hF 169 13 (by omega)]; exact h1, by rw [hF 169 14 (by omega)]; exact h2, fun s s0 s1 => ?_, fun s s0 s1 => by rw [hF 176 s (by omega)]; exact h4 s s0 s1, fun v v0 v1 => ?_, h6.keep (fun i => hF 170 i (by omega))⟩
  · rw [hF 171 _ (by omega), hF 172 _ (by omega), hF 173 _ (by omega), hF 174 _ (by omega), hF 175 _ (by omega), hF 177 _ (by omega), hF 178 _ (by omega)]; exact h3 s s0 s1
  · rw [hF 179 _ (by omega), hF 180 _ (by omega), hF 181 _ (by omega), hF 182 _ (by omega)]; exact h5 v v0 v1
/-- a plan in an array of 39, or in the rounds and sizes -/
def AR (σ : sto) (c o d e : Int) (P : pln) : Prop := ∀ v : Int, 0 ≤ v → v < 3 → σ d (e + v) = ln (P v) ∧ ln (P v) ≤ 12 ∧ ∀ i : Int, 0 ≤ i → i < ln (P v) → σ c (o + 12 * v + i) = gt (P v) i ∧ 0 ≤ gt (P v) i ∧ gt (P v) i < 12
def RA (σ : sto) (P : pln) : Prop := ∀ v : Int, 0 ≤ v → v < 3 → σ 184 v = ln (P v) ∧ ln (P v) ≤ 12 ∧ ∀ i : Int, 0 ≤ i → i < ln (P v) → σ 183 (12 * v + i) = gt (P v) i ∧ 0 ≤ gt (P v) i ∧ gt (P v) i < 12
theorem RA.len {σ : sto} {P : pln} (h : RA σ P) {v : Int} (v0 : 0 ≤ v) (v1 : v < 3) : σ 184 v = ln (P v) ∧ 0 ≤ ln (P v) ∧ ln (P v) ≤ 12 := ⟨(h v v0 v1).1, ln0 _, (h v v0 v1).2.1⟩
theorem RA.el {σ : sto} {P : pln} (h : RA σ P) {v i : Int} (v0 : 0 ≤ v) (v1 : v < 3) (i0 : 0 ≤ i) (i1 : i < ln (P v)) : σ 183 (12 * v + i) = gt (P v) i ∧ 0 ≤ gt (P v) i ∧ gt (P v) i < 12 := (h v v0 v1).2.2 i i0 i1
theorem RA.keep {σ σ' : sto} {P : pln} (h : RA σ P) (hF : ∀ c i : Int, (c = 183 ∨ c = 184) → σ' c i = σ c i) : RA σ' P := fun v v0 v1 => by
  obtain ⟨a, b, c⟩ := h v v0 v1
  exact ⟨by rw [hF 184 _ (Or.inr rfl)]; exact a, b, fun i i0 i1 => by rw [hF 183 _ (Or.inl rfl)]; exact c i i0 i1⟩
theorem mt_vanOf {σ D : sto} {ns nv s : Int} {P : pln} (hC : DR σ D ns nv) (hn : 0 ≤ nv ∧ nv ≤ 3) (hQ : RA σ P) (hP : PO ns nv P) (hs : inR s) : CI M_Mod_vanOf 0 [vR 169, vI s] σ (fun r σ' => r = vanOf P s ∧ σ' = σ) := by
  have h14 := hC.2.1
  have L : ∀ v, 0 ≤ v → v ≤ nv → ∀ f : Int, (f = -1 ∧ (∀ u, 0 ≤ u → u < v → s ∉ P u) ∨ (0 ≤ f ∧ f < v) ∧ s ∈ P f) → Run M_Mod_vanOf (rxI 0 (fun r σ' => r = vanOf P s ∧ σ' = σ)) (0, 0) 4 [vR 169, vI s, vI f, vI v, vU] [] (sg σ) := by
    refine up_ind (b := nv) ?_ ?_
    · intro f hf
      refine r_iload_n 3 d_Mod_vanOf_4 rfl rfl ?_
      refine r_aload_n 0 d_Mod_vanOf_5 rfl rfl ?_
      refine r_getI 14 d_Mod_vanOf_6 fk_Mod_105 rfl rfl rfl ?_
      rw [h14]
      refine r_icmp_ge 60 d_Mod_vanOf_9 rfl (by omega) (by omega) (fun h9 => ?_) (fun h9 => absurd h9 (by omega))
      refine r_iload_n 2 d_Mod_vanOf_60 rfl rfl ?_
      refine q_iret d_Mod_vanOf_61 rfl ?_
      refine ⟨?_, rfl⟩
      rcases hf with ⟨a, b⟩ | ⟨a, b⟩
      · rw [a]; refine (vanOf_no.mpr (fun q => ?_)).symm
        obtain ⟨u, u0, u1, hu⟩ := mem_al3.mp q
        by_cases e : u < nv
        · exact b u u0 e hu
        · rw [hP.2.2 u (by omega) u0 u1] at hu; cases hu
      · have y := vanOf_yes hP (mem_al3.mpr ⟨f, a.1, by omega, b⟩)
        exact hP.uniq a.1 (by omega) y.1 y.2.1 b y.2.2.2.1
    · intro v v0 v1 ih f hf
      have hz := hQ.len v0 (show v < 3 by omega)
      have LI : ∀ i, 0 ≤ i → i ≤ ln (P v) → ∀ f : Int, (f = -1 ∧ (∀ u, 0 ≤ u → u < v → s ∉ P u) ∧ (∀ j, 0 ≤ j → j < i → gt (P v) j ≠ s) ∨ (0 ≤ f ∧ f ≤ v) ∧ s ∈ P f) → Run M_Mod_vanOf (rxI 0 (fun r σ' => r = vanOf P s ∧ σ' = σ)) (0, 0) 15 [vR 169, vI s, vI f, vI v, vI i] [] (sg σ) := by
        refine up_ind (b := ln (P v)) ?_ ?_
        · intro f hf
          refine r_iload 4 d_Mod_vanOf_15 rfl ?_
          refine r_aload_n 0 d_Mod_vanOf_17 rfl rfl ?_
          refine r_getR 184 d_Mod_vanOf_18 fk_Mod_52 rfl rfl rfl (by decide) ?_
          refine r_iload_n 3 d_Mod_vanOf_21 rfl rfl ?_
          refine r_iald 3 d_Mod_vanOf_22 rfl rfl (by omega) (by omega) ?_
          rw [hz.1]
          refine r_icmp_ge 54 d_Mod_vanOf_23 rfl (by omega) (by omega) (fun h23 => ?_) (fun h23 => absurd h23 (by omega))
          refine r_iinc 3 d_Mod_vanOf_54 rfl (by decide) rfl ?_
          refine r_goto 4 d_Mod_vanOf_57 rfl ?_
          refine r_drop 4 (ih f ?_)
          rcases hf with ⟨a, b, c⟩ | ⟨a, b⟩
          · refine Or.inl ⟨a, fun u u0 u1 q => ?_⟩
            by_cases e : u = v
            · rw [e] at q; obtain ⟨j, j0, j1, j2⟩ := mem_gt.mp q; exact c j j0 j1 j2
            · exact b u u0 (by omega) q
          · exact Or.inr ⟨by omega, b⟩
        · intro i i0 i1 ihi f hf
          have he := hQ.el v0 (show v < 3 by omega) i0 i1
          refine r_iload 4 d_Mod_vanOf_15 rfl ?_
          refine r_aload_n 0 d_Mod_vanOf_17 rfl rfl ?_
          refine r_getR 184 d_Mod_vanOf_18 fk_Mod_52 rfl rfl rfl (by decide) ?_
          refine r_iload_n 3 d_Mod_vanOf_21 rfl rfl ?_
          refine r_iald 3 d_Mod_vanOf_22 rfl rfl (by omega) (by omega) ?_
          rw [hz.1]
          refine r_icmp_ge 54 d_Mod_vanOf_23 rfl (by omega) (by omega) (fun h23 => absurd h23 (by omega)) (fun h23 => ?_)
          refine r_aload_n 0 d_Mod_vanOf_26 rfl rfl ?_
          refine r_getR 183 d_Mod_vanOf_27 fk_Mod_49 rfl rfl rfl (by decide) ?_
          refine r_bipush d_Mod_vanOf_30 (by decide) ?_
          refine r_iload_n 3 d_Mod_vanOf_32 rfl rfl ?_
          refine r_imul d_Mod_vanOf_33 ?_
          refine r_iload 4 d_Mod_vanOf_34 rfl ?_
          refine r_iadd d_Mod_vanOf_36 ?_
          refine r_iald 36 d_Mod_vanOf_37 rfl rfl (by omega) (by omega) ?_
          refine r_iload_n 1 d_Mod_vanOf_38 rfl rfl ?_
          rw [he.1]
          refine r_icmp_ne 46 d_Mod_vanOf_39 rfl (by omega) (by omega) (fun h39 => ?_) (fun h39 => ?_)
          · refine r_iload_n 2 d_Mod_vanOf_46 rfl rfl ?_
            refine r_istore_n 2 d_Mod_vanOf_47 rfl (by decide) rfl ?_
            refine r_iinc 4 d_Mod_vanOf_48 rfl (by decide) rfl ?_
            refine r_goto 15 d_Mod_vanOf_51 rfl ?_
            refine ihi _ ?_
            first
              | exact Or.inr ⟨⟨v0, Int.le_refl _⟩, by rw [← h39]; exact gt_mem i0 i1⟩
              | (rcases hf with ⟨a, b, c⟩ | ⟨a, b⟩
                 · refine Or.inl ⟨a, b, fun j j0 j1 => ?_⟩
                   by_cases e : j = i
                   · rw [e]; exact h39
                   · exact c j j0 (by omega)
                 · exact Or.inr ⟨a, b⟩)
          · refine r_iload_n 3 d_Mod_vanOf_42 rfl rfl ?_
            refine r_goto 47 d_Mod_vanOf_43 rfl ?_
            refine r_istore_n 2 d_Mod_vanOf_47 rfl (by decide) rfl ?_
            refine r_iinc 4 d_Mod_vanOf_48 rfl (by decide) rfl ?_
            refine r_goto 15 d_Mod_vanOf_51 rfl ?_
            refine ihi _ ?_
            first
              | exact Or.inr ⟨⟨v0, Int.le_refl _⟩, by rw [← h39]; exact gt_mem i0 i1⟩
              | (rcases hf with ⟨a, b, c⟩ | ⟨a, b⟩
                 · refine Or.inl ⟨a, b, fun j j0 j1 => ?_⟩
                   by_cases e : j = i
                   · rw [e]; exact h39
                   · exact c j j0 (by omega)
                 · exact Or.inr ⟨a, b⟩)
      refine r_iload_n 3 d_Mod_vanOf_4 rfl rfl ?_
      refine r_aload_n 0 d_Mod_vanOf_5 rfl rfl ?_
      refine r_getI 14 d_Mod_vanOf_6 fk_Mod_105 rfl rfl rfl ?_
      rw [h14]
      refine r_icmp_ge 60 d_Mod_vanOf_9 rfl (by omega) (by omega) (fun h9 => absurd h9 (by omega)) (fun h9 => ?_)
      refine r_iconst d_Mod_vanOf_12 ?_
      refine r_istore 4 d_Mod_vanOf_13 (by decide) rfl ?_
      refine LI 0 (by omega) (by omega) f ?_
      rcases hf with ⟨a, b⟩ | ⟨a, b⟩
      · exact Or.inl ⟨a, b, fun j j0 j1 => by omega⟩
      · exact Or.inr ⟨by omega, b⟩
  refine ci_of [vR 169, vI s, vU, vU, vU] fy_Mod_vanOf.1 rfl (Nat.le_of_ble_eq_true rfl) ?_
  refine r_iconst d_Mod_vanOf_0 ?_
  refine r_istore_n 2 d_Mod_vanOf_1 rfl (by decide) rfl ?_
  refine r_iconst d_Mod_vanOf_2 ?_
  refine r_istore_n 3 d_Mod_vanOf_3 rfl (by decide) rfl ?_
  exact L 0 (by omega) (by omega) _ (Or.inl ⟨rfl, fun u u0 u1 => by omega⟩)
theorem mt_placeOf {σ D : sto} {ns nv s : Int} {P : pln} (hC : DR σ D ns nv) (hn : 0 ≤ nv ∧ nv ≤ 3) (hQ : RA σ P) (hP : PO ns nv P) (hs : inR s) : CI M_Mod_placeOf 1 [vR 169, vI s] σ (fun r σ' => r = plcOf P s ∧ σ' = σ) := by
  have hvo := vanOf_in P s
  have L : vanOf P s ≠ -1 → ∀ i, 0 ≤ i → i ≤ plcOf P s → Run M_Mod_placeOf (rxI 1 (fun r σ' => r = plcOf P s ∧ σ' = σ)) (0, 0) 14 [vR 169, vI s, vI (vanOf P s), vI i] [] (sg σ) := by
    intro hne
    have hin : s ∈ al3 P := Classical.byContradiction (fun q => hne (vanOf_no.mpr q))
    obtain ⟨y1, y2, y3, y4, y5, y6, y7, y8⟩ := vanOf_yes hP hin
    have hz := hQ.len y1 y2
    refine up_ind (b := plcOf P s) ?_ ?_
    · have he := hQ.el y1 y2 y6 y7
      refine r_aload_n 0 d_Mod_placeOf_14 rfl rfl ?_
      refine r_getR 183 d_Mod_placeOf_15 fk_Mod_49 rfl rfl rfl (by decide) ?_
      refine r_bipush d_Mod_placeOf_18 (by decide) ?_
      refine r_iload_n 2 d_Mod_placeOf_20 rfl rfl ?_
      refine r_imul d_Mod_placeOf_21 ?_
      refine r_iload_n 3 d_Mod_placeOf_22 rfl rfl ?_
      refine r_iadd d_Mod_placeOf_23 ?_
      refine r_iald 36 d_Mod_placeOf_24 rfl rfl (by omega) (by omega) ?_
      refine r_iload_n 1 d_Mod_placeOf_25 rfl rfl ?_
      rw [he.1]
      refine r_icmp_eq 35 d_Mod_placeOf_26 rfl (by omega) (by omega) (fun h26 => ?_) (fun h26 => absurd h26 (by omega))
      refine r_iload_n 3 d_Mod_placeOf_35 rfl rfl ?_
      refine q_iret d_Mod_placeOf_36 rfl ?_
      exact ⟨rfl, rfl⟩
    · intro i i0 i1 ih
      have he := hQ.el y1 y2 i0 (by omega)
      have hni : gt (P (vanOf P s)) i ≠ s := by
        rw [y5] at i1
        exact of_decide_eq_false (fst1_lt i0 i1)
      refine r_aload_n 0 d_Mod_placeOf_14 rfl rfl ?_
      refine r_getR 183 d_Mod_placeOf_15 fk_Mod_49 rfl rfl rfl (by decide) ?_
      refine r_bipush d_Mod_placeOf_18 (by decide) ?_
      refine r_iload_n 2 d_Mod_placeOf_20 rfl rfl ?_
      refine r_imul d_Mod_placeOf_21 ?_
      refine r_iload_n 3 d_Mod_placeOf_22 rfl rfl ?_
      refine r_iadd d_Mod_placeOf_23 ?_
      refine r_iald 36 d_Mod_placeOf_24 rfl rfl (by omega) (by omega) ?_
      refine r_iload_n 1 d_Mod_placeOf_25 rfl rfl ?_
      rw [he.1]
      refine r_icmp_eq 35 d_Mod_placeOf_26 rfl (by omega) (by omega) (fun h26 => absurd h26 (by omega)) (fun h26 => ?_)
      refine r_iinc 3 d_Mod_placeOf_29 rfl (by decide) rfl ?_
      refine r_goto 14 d_Mod_placeOf_32 rfl ?_
      exact ih
  refine ci_of [vR 169, vI s, vU, vU] fy_Mod_placeOf.1 rfl (Nat.le_of_ble_eq_true rfl) ?_
  refine r_aload_n 0 d_Mod_placeOf_0 rfl rfl ?_
  refine r_iload_n 1 d_Mod_placeOf_1 rfl rfl ?_
  refine r_cVP 8 d_Mod_placeOf_2 lk_Mod_156 vc_Mod_vanOf (mt_vanOf hC hn hQ hP hs) rfl rfl rfl rfl ⟨Nat.le_of_ble_eq_true rfl, Nat.le_of_ble_eq_true rfl⟩ ⟨Nat.zero_le _, Nat.zero_le _⟩ (Nat.le_of_ble_eq_true rfl) ?_
  refine r_istore_n 2 d_Mod_placeOf_5 rfl (by decide) rfl ?_
  refine r_iload_n 2 d_Mod_placeOf_6 rfl rfl ?_
  refine r_if_ge 12 d_Mod_placeOf_7 rfl (by omega) (fun h7 => ?_) (fun h7 => ?_)
  · refine r_iconst d_Mod_placeOf_12 ?_
    refine r_istore_n 3 d_Mod_placeOf_13 rfl (by decide) rfl ?_
    have hp := vanOf_yes hP (Classical.byContradiction (fun q => by have := vanOf_no.mpr q; omega) : s ∈ al3 P)
    exact L (by omega) 0 (by omega) (by omega)
  · refine r_iconst d_Mod_placeOf_10 ?_
    refine q_iret d_Mod_placeOf_11 rfl ?_
    refine ⟨?_, rfl⟩
    rcases vanOf_cases P s with ⟨v, a, b, -, -, c, -⟩ | ⟨-, -, c⟩
    · omega
    · exact c.symm
/-- why and where, as far as known -/
def WY (σ : sto) (y p : Int) : Prop := σ 169 30 = y ∧ σ 169 31 = p
def YF (σ σ' : sto) : Prop := ∀ c i : Int, (c ≠ 169 ∨ i ≠ 30 ∧ i ≠ 31) → σ' c i = σ c i
theorem mt_fails {σ : sto} {y p r q : Int} (h : WY σ y p) (hy : inR y) : CV M_Mod_fails 0 [vR 169, vI r, vI q] σ (fun σ' => (y = 0 ∧ WY σ' r q ∨ y ≠ 0 ∧ WY σ' y p) ∧ YF σ σ') := by
  refine cv_of [vR 169, vI r, vI q] fy_Mod_fails.1 rfl (Nat.le_of_ble_eq_true rfl) ?_
  refine r_aload_n 0 d_Mod_fails_0 rfl rfl ?_
  refine r_getI 30 d_Mod_fails_1 fk_Mod_171 rfl rfl rfl ?_
  rw [h.1]
  refine r_if_eq 8 d_Mod_fails_4 rfl (by omega) (fun h4 => ?_) (fun h4 => ?_)
  · refine r_aload_n 0 d_Mod_fails_8 rfl rfl ?_
    refine r_iload_n 1 d_Mod_fails_9 rfl rfl ?_
    refine r_putI 30 d_Mod_fails_10 fk_Mod_171 rfl rfl rfl (Or.inl rfl) ?_
    refine r_aload_n 0 d_Mod_fails_13 rfl rfl ?_
    refine r_iload_n 2 d_Mod_fails_14 rfl rfl ?_
    refine r_putI 31 d_Mod_fails_15 fk_Mod_174 rfl rfl rfl (Or.inl rfl) ?_
    refine q_vret d_Mod_fails_18 rfl ?_
    exact ⟨Or.inl ⟨h4, by rw [wr_ne (by omega), wr_eq], wr_eq⟩, fun c i z => by rw [wr_ne (by omega), wr_ne (by omega)]⟩
  · refine q_vret d_Mod_fails_7 rfl ?_
    exact ⟨Or.inr ⟨h4, h⟩, fun _ _ _ => rfl⟩
theorem mt_stands {σ : sto} {v s a b : Int} {P : pln} (hQ : RA σ P) (v0 : 0 ≤ v) (v1 : v < 3) (a0 : 0 ≤ a) (hab : a ≤ b) (b1 : b ≤ ln (P v)) (hs : inR s) : CI M_Mod_stands 0 [vR 169, vI v, vI s, vI a, vI b] σ (fun r σ' => (r = 1 ∧ (∃ j, a ≤ j ∧ j < b ∧ gt (P v) j = s) ∨ r = 0 ∧ ∀ j, a ≤ j → j < b → gt (P v) j ≠ s) ∧ σ' = σ) := by
  have hz := hQ.len v0 v1
  have L : ∀ i, a ≤ i → i ≤ b → ∀ x : Int, (x = 1 ∧ (∃ j, a ≤ j ∧ j < i ∧ gt (P v) j = s) ∨ x = 0 ∧ ∀ j, a ≤ j → j < i → gt (P v) j ≠ s) → Run M_Mod_stands (rxI 0 (fun r σ' => (r = 1 ∧ (∃ j, a ≤ j ∧ j < b ∧ gt (P v) j = s) ∨ r = 0 ∧ ∀ j, a ≤ j → j < b → gt (P v) j ≠ s) ∧ σ' = σ)) (0, 0) 6 [vR 169, vI v, vI s, vI a, vI b, vI x, vI i] [] (sg σ) := by
    refine up_ind (b := b) ?_ ?_
    · intro x hx
      refine r_iload 6 d_Mod_stands_6 rfl ?_
      refine r_iload 4 d_Mod_stands_8 rfl ?_
      refine r_icmp_ge 47 d_Mod_stands_10 rfl (by omega) (by omega) (fun h10 => ?_) (fun h10 => absurd h10 (by omega))
      refine r_iload 5 d_Mod_stands_47 rfl ?_
      refine q_zret d_Mod_stands_49 rfl (by omega) ?_
      exact ⟨hx, rfl⟩
    · intro i i0 i1 ih x hx
      have he := hQ.el v0 v1 (show 0 ≤ i by omega) (show i < ln (P v) by omega)
      refine r_iload 6 d_Mod_stands_6 rfl ?_
      refine r_iload 4 d_Mod_stands_8 rfl ?_
      refine r_icmp_ge 47 d_Mod_stands_10 rfl (by omega) (by omega) (fun h10 => absurd h10 (by omega)) (fun h10 => ?_)
      refine r_iload 5 d_Mod_stands_13 rfl ?_
      refine r_if_ne 34 d_Mod_stands_15 rfl (by omega) (fun h15 => ?_) (fun h15 => ?_)
      · refine r_iconst d_Mod_stands_34 ?_
        refine r_goto 39 d_Mod_stands_35 rfl ?_
        refine r_istore 5 d_Mod_stands_39 (by decide) rfl ?_
        refine r_iinc 6 d_Mod_stands_41 rfl (by decide) rfl ?_
        refine r_goto 6 d_Mod_stands_44 rfl ?_
        refine ih _ ?_
        first
          | exact Or.inl ⟨rfl, i, i0, by omega, h31⟩
          | (have hx := hx.resolve_right (fun q => h15 q.1)
             obtain ⟨j, j0, j1, j2⟩ := hx.2
             exact Or.inl ⟨rfl, j, j0, by omega, j2⟩)
          | (have hx := hx.resolve_left (fun q => by omega)
             refine Or.inr ⟨rfl, fun j j0 j1 => ?_⟩
             by_cases e : j = i
             · rw [e]; exact h31
             · exact hx.2 j j0 (by omega))
      · refine r_aload_n 0 d_Mod_stands_18 rfl rfl ?_
        refine r_getR 183 d_Mod_stands_19 fk_Mod_49 rfl rfl rfl (by decide) ?_
        refine r_bipush d_Mod_stands_22 (by decide) ?_
        refine r_iload_n 1 d_Mod_stands_24 rfl rfl ?_
        refine r_imul d_Mod_stands_25 ?_
        refine r_iload 6 d_Mod_stands_26 rfl ?_
        refine r_iadd d_Mod_stands_28 ?_
        refine r_iald 36 d_Mod_stands_29 rfl rfl (by omega) (by omega) ?_
        refine r_iload_n 2 d_Mod_stands_30 rfl rfl ?_
        rw [he.1]
        refine r_icmp_ne 38 d_Mod_stands_31 rfl (by omega) (by omega) (fun h31 => ?_) (fun h31 => ?_)
        · refine r_iconst d_Mod_stands_38 ?_
          refine r_istore 5 d_Mod_stands_39 (by decide) rfl ?_
          refine r_iinc 6 d_Mod_stands_41 rfl (by decide) rfl ?_
          refine r_goto 6 d_Mod_stands_44 rfl ?_
          refine ih _ ?_
          first
            | exact Or.inl ⟨rfl, i, i0, by omega, h31⟩
            | (have hx := hx.resolve_right (fun q => h15 q.1)
               obtain ⟨j, j0, j1, j2⟩ := hx.2
               exact Or.inl ⟨rfl, j, j0, by omega, j2⟩)
            | (have hx := hx.resolve_left (fun q => by omega)
               refine Or.inr ⟨rfl, fun j j0 j1 => ?_⟩
               by_cases e : j = i
               · rw [e]; exact h31
               · exact hx.2 j j0 (by omega))
        · refine r_iconst d_Mod_stands_34 ?_
          refine r_goto 39 d_Mod_stands_35 rfl ?_
          refine r_istore 5 d_Mod_stands_39 (by decide) rfl ?_
          refine r_iinc 6 d_Mod_stands_41 rfl (by decide) rfl ?_
          refine r_goto 6 d_Mod_stands_44 rfl ?_
          refine ih _ ?_
          first
            | exact Or.inl ⟨rfl, i, i0, by omega, h31⟩
            | (have hx := hx.resolve_right (fun q => h15 q.1)
               obtain ⟨j, j0, j1, j2⟩ := hx.2
               exact Or.inl ⟨rfl, j, j0, by omega, j2⟩)
            | (have hx := hx.resolve_left (fun q => by omega)
               refine Or.inr ⟨rfl, fun j j0 j1 => ?_⟩
               by_cases e : j = i
               · rw [e]; exact h31
               · exact hx.2 j j0 (by omega))
  refine ci_of [vR 169, vI v, vI s, vI a, vI b, vU, vU] fy_Mod_stands.1 rfl (Nat.le_of_ble_eq_true rfl) ?_
  refine r_iconst d_Mod_stands_0 ?_
  refine r_istore 5 d_Mod_stands_1 (by decide) rfl ?_
  refine r_iload_n 3 d_Mod_stands_3 rfl rfl ?_
  refine r_istore 6 d_Mod_stands_4 (by decide) rfl ?_
  exact L a (Int.le_refl _) hab _ (Or.inr ⟨rfl, fun j j0 j1 => by omega⟩)
/-- the first of the places that fail, with its reason -/
def FI (p : Int → Bool) (r y0 w0 i y x : Int) : Prop := (y0 ≠ 0 ∧ y = y0 ∧ x = w0) ∨ (y0 = 0 ∧ y = 0 ∧ x = w0 ∧ ∀ j, 0 ≤ j → j < i → p j = false) ∨ (y0 = 0 ∧ y = r ∧ (0 ≤ x ∧ x < i) ∧ p x = true ∧ ∀ j, 0 ≤ j → j < x → p j = false)
section FI
variable {p : Int → Bool} {r y0 w0 i y x : Int}
theorem FI.zero (h : y0 = 0 ∨ y0 ≠ 0) : FI p r y0 w0 0 y0 w0 := by
  rcases h with h | h
  · exact Or.inr (Or.inl ⟨h, h, rfl, fun j j0 j1 => by omega⟩)
  · exact Or.inl ⟨h, rfl, rfl⟩
theorem FI.pass (h : FI p r y0 w0 i y x) (hp : p i = false) : FI p r y0 w0 (i + 1) y x := by
  rcases h with h | ⟨a, b, c, d⟩ | ⟨a, b, c, d, e⟩
  · exact Or.inl h
  · refine Or.inr (Or.inl ⟨a, b, c, fun j j0 j1 => ?_⟩)
    by_cases q : j = i
    · rw [q]; exact hp
    · exact d j j0 (by omega)
  · exact Or.inr (Or.inr ⟨a, b, by omega, d, e⟩)
theorem FI.fail {σ' : sto} (h : FI p r y0 w0 i y x) (i0 : 0 ≤ i) (hr : r ≠ 0) (hp : p i = true) (hw : y = 0 ∧ WY σ' r i ∨ y ≠ 0 ∧ WY σ' y x) : ∃ y' x', FI p r y0 w0 (i + 1) y' x' ∧ WY σ' y' x' := by
  rcases h with h | ⟨a, b, c, d⟩ | ⟨a, b, c, d, e⟩
  · rcases hw with hw | hw
    · omega
    · exact ⟨y, x, Or.inl h, hw.2⟩
  · rcases hw with hw | hw
    · exact ⟨r, i, Or.inr (Or.inr ⟨a, rfl, by omega, hp, d⟩), hw.2⟩
    · exact absurd b hw.1
  · rcases hw with hw | hw
    · omega
    · exact ⟨y, x, Or.inr (Or.inr ⟨a, b, by omega, d, e⟩), hw.2⟩
theorem FI.end (h : FI p r y0 w0 i y x) (i0 : 0 ≤ i) : (y0 ≠ 0 ∧ y = y0 ∧ x = w0) ∨ (y0 = 0 ∧ y = 0 ∧ x = w0 ∧ fst1 p i = i) ∨ (y0 = 0 ∧ y = r ∧ x = fst1 p i ∧ fst1 p i < i) := by
  rcases h with h | ⟨a, b, c, d⟩ | ⟨a, b, c, d, e⟩
  · exact Or.inl h
  · exact Or.inr (Or.inl ⟨a, b, c, fst1_none i0 d⟩)
  · have := fst1_of c.1 c.2 d e
    exact Or.inr (Or.inr ⟨a, b, this.symm, by rw [this]; exact c.2⟩)
theorem FI.yr (h : FI p r y0 w0 i y x) (h0 : 0 ≤ y0 ∧ y0 ≤ 4) (hr : 0 ≤ r ∧ r ≤ 4) : 0 ≤ y ∧ y ≤ 4 := by unfold FI at h; omega
end FI
