-- THE REFERENCE: what it holds; notes, settles (walks written by wip/whole/gen_rnt.py)
def RU (σ : sto) (U : List pln) : Prop := σ 169 20 = lp U ∧ lp U ≤ 20 ∧ ∀ j, 0 ≤ j → j < lp U → AP σ 185 (39 * (lp U - 1 - j)) (gp U j)
/-- what the reference holds beside its rounds -/
def RE (σ : sto) (g : G) : Prop := DR σ g.D g.ns g.nv ∧ RU σ g.U ∧ σ 169 45 = g.rs ∧ (∀ i, 0 ≤ i → i < g.rs → σ 196 i = g.rn i) ∧ σ 169 33 = g.lw ∧ ∀ k, 2 ≤ k → k ≤ 8 → σ 188 k = g.rf k
def RI (σ : sto) (g : G) : Prop := RA σ g.P ∧ RE σ g
theorem RU.keep {σ σ' : sto} {U : List pln} (h : RU σ U) (h0 : σ' 169 20 = σ 169 20) (hF : ∀ i, σ' 185 i = σ 185 i) : RU σ' U := ⟨by rw [h0]; exact h.1, h.2.1, fun j j0 j1 => (h.2.2 j j0 j1).keep (fun k _ _ => hF k)⟩
theorem RE.keep {σ σ' : sto} {g : G} (h : RE σ g) (hF : ∀ c i : Int, (c = 169 ∧ (i = 13 ∨ i = 14 ∨ i = 20 ∨ i = 33 ∨ i = 45) ∨ 170 ≤ c ∧ c ≤ 182 ∨ c = 185 ∨ c = 188 ∨ c = 196) → σ' c i = σ c i) : RE σ' g := by
  obtain ⟨h1, h2, h3, h4, h5, h6⟩ := h
  exact ⟨h1.keep (fun c i q => hF c i (by omega)), h2.keep (hF 169 20 (by omega)) (fun i => hF 185 i (by omega)), by rw [hF 169 45 (by omega)]; exact h3, fun i i0 i1 => by rw [hF 196 i (by omega)]; exact h4 i i0 i1, by rw [hF 169 33 (by omega)]; exact h5, fun k k0 k1 => by rw [hF 188 k (by omega)]; exact h6 k k0 k1⟩
theorem RF.re {σ σ' : sto} {g : G} (h : RF σ σ') (hE : RE σ g) : RE σ' g := hE.keep (fun c i q => h c i (by omega) (by omega) (by omega) (by omega))
theorem PRF.re {σ σ' : sto} {g : G} (h : PRF σ σ') (hE : RE σ g) : RE σ' g := hE.keep (fun c i q => h c i (by omega) (by omega))
theorem RF.ap {σ σ' : sto} {c o : Int} {P : pln} (h : RF σ σ') (hc : 185 ≤ c ∧ c ≤ 187) (hA : AP σ c o P) : AP σ' c o P := hA.keep (fun k _ _ => h c k (by omega) (by omega) (by omega) (by omega))
theorem PRF.ap {σ σ' : sto} {c o : Int} {P : pln} (h : PRF σ σ') (hc : 185 ≤ c ∧ c ≤ 187) (hA : AP σ c o P) : AP σ' c o P := hA.keep (fun k _ _ => h c k (by omega) (by omega))
def MF (σ σ' : sto) : Prop := ∀ c i : Int, c < 169 → σ' c i = σ c i
theorem MF.rf {σ : sto} : MF σ σ := fun _ _ _ => rfl
theorem MF.tr {σ σ' σ'' : sto} (h : MF σ σ') (g : MF σ' σ'') : MF σ σ'' := fun c i q => (g c i q).trans (h c i q)
theorem RF.mf {σ σ' : sto} (h : RF σ σ') : MF σ σ' := fun c i q => h c i (by omega) (by omega) (by omega) (by omega)
theorem PRF.mf {σ σ' : sto} (h : PRF σ σ') : MF σ σ' := fun c i q => h c i (by omega) (by omega)
theorem RA.plk {σ : sto} {P Q : pln} (h : RA σ Q) (e : plk Q P) : RA σ P := fun v v0 v1 => by rw [← plk_tr.mp e v v0 v1]; exact h v v0 v1
/-- a call's end on the reference's side -/
def QM (a : Int × G) (σ : sto) (r : Int) (σ' : sto) : Prop := r = a.1 ∧ RI σ' a.2 ∧ MF σ σ'
theorem RI.no {σ : sto} {g : G} {x : Int} (h : RI σ g) : RI (wr σ 188 (-x) (σ 188 (-x) + 1)) (no g x).2 := by
  obtain ⟨h0, h1, h2, h3, h4, h5, h6⟩ := h
  refine ⟨h0.keep (fun c i q => wr_ne (by omega)), h1.keep (fun c i q => wr_ne (by omega)), h2.keep (wr_ne (by omega)) (fun i => wr_ne (by omega)), by rw [wr_ne (by omega)]; exact h3, fun i i0 i1 => by rw [wr_ne (by omega)]; exact h4 i i0 i1, by rw [wr_ne (by omega)]; exact h5, fun k k0 k1 => ?_⟩
  show wr σ 188 (-x) (σ 188 (-x) + 1) 188 k = if k = -x then g.rf k + 1 else g.rf k
  by_cases e : k = -x
  · rw [if_pos e, e, wr_eq, ← e, h6 k k0 k1]
  · rw [if_neg e, wr_ne (Or.inr e), h6 k k0 k1]
theorem qn_no {σ σ1 σ' : sto} {g : G} {x r : Int} {a : Int × G} (hI : RI σ1 g) (hF : MF σ σ1) (hr : r = x ∧ σ' = wr σ1 188 (-x) (σ1 188 (-x) + 1)) (e : a = no g x) : QM a σ r σ' := by
  rw [e, hr.1, hr.2]
  exact ⟨rfl, hI.no, hF.tr (fun c i q => wr_ne (by omega))⟩
theorem qn_ok {σ σ1 : sto} {g' : G} {r : Int} {a : Int × G} (hI : RI σ1 g') (hF : MF σ σ1) (e : a = (r, g')) : QM a σ r σ1 := by
  rw [e]; exact ⟨rfl, hI, hF⟩
theorem qn_eq {σ σ' : sto} {r : Int} {a b : Int × G} (h : QM b σ r σ') (e : a = b) : QM a σ r σ' := by rw [e]; exact h
theorem mt_isAs {σ : sto} {c o n : Int} {P Q : pln} (hk : KD c = 9) (ha : AL c = n) (o0 : 0 ≤ o) (hn : o + 39 ≤ n) (hQ : RA σ Q) (hA : AP σ c o P) : CI M_Mod_isAs 0 [vR 169, vR c, vI o] σ (fun r σ' => (r = 1 ∧ plk Q P ∨ r = 0 ∧ ¬ plk Q P) ∧ σ' = σ) := by
  have LV : ∀ v, 0 ≤ v → v ≤ 3 → ∀ x : Int, (x = 1 ∧ (∀ u, 0 ≤ u → u < v → Q u = P u) ∨ x = 0 ∧ ¬ plk Q P) → Run M_Mod_isAs (rxI 0 (fun r σ' => (r = 1 ∧ plk Q P ∨ r = 0 ∧ ¬ plk Q P) ∧ σ' = σ)) (0, 0) 5 [vR 169, vR c, vI o, vI x, vI v, vU] [] (sg σ) := by
    refine up_ind (b := 3) ?_ ?_
    · intro x hx
      refine r_iload 4 d_Mod_isAs_5 rfl ?_
      refine r_iconst d_Mod_isAs_7 ?_
      refine r_icmp_ge 105 d_Mod_isAs_8 rfl (by omega) (by omega) (fun h8 => ?_) (fun h8 => absurd h8 (by omega))
      refine r_iload_n 3 d_Mod_isAs_105 rfl rfl ?_
      refine q_zret d_Mod_isAs_106 rfl (by omega) ?_
      exact ⟨hx.elim (fun q => Or.inl ⟨q.1, plk_tr.mpr q.2⟩) Or.inr, rfl⟩
    · intro v v0 v1 ih x hx
      have hz := hQ.len v0 v1
      obtain ⟨ha1, ha2, ha3⟩ := hA v v0 v1
      have hlp := ln0 (P v)
      have LI : ∀ i, 0 ≤ i → i ≤ ln (Q v) → ∀ x : Int, (x = 1 ∧ ((∀ u, 0 ≤ u → u < v → Q u = P u) ∧ ln (P v) = ln (Q v) ∧ ∀ j, 0 ≤ j → j < i → gt (Q v) j = gt (P v) j) ∨ x = 0 ∧ ¬ plk Q P) → Run M_Mod_isAs (rxI 0 (fun r σ' => (r = 1 ∧ plk Q P ∨ r = 0 ∧ ¬ plk Q P) ∧ σ' = σ)) (0, 0) 43 [vR 169, vR c, vI o, vI x, vI v, vI i] [] (sg σ) := by
        refine up_ind (b := ln (Q v)) ?_ ?_
        · intro x hx
          refine r_iload 5 d_Mod_isAs_43 rfl ?_
          refine r_aload_n 0 d_Mod_isAs_45 rfl rfl ?_
          refine r_getR 184 d_Mod_isAs_46 fk_Mod_52 rfl rfl rfl (by decide) ?_
          refine r_iload 4 d_Mod_isAs_49 rfl ?_
          refine r_iald 3 d_Mod_isAs_51 rfl rfl (by omega) (by omega) ?_
          rw [hz.1]
          refine r_icmp_ge 99 d_Mod_isAs_52 rfl (by omega) (by omega) (fun h52 => ?_) (fun h52 => absurd h52 (by omega))
          refine r_iinc 4 d_Mod_isAs_99 rfl (by decide) rfl ?_
          refine r_goto 5 d_Mod_isAs_102 rfl ?_
          refine r_drop 5 (ih x (hx.imp (fun q => ⟨q.1, fun u u0 u1 => ?_⟩) id))
          by_cases e : u = v
          · rw [e]; exact ext_gt q.2.2.1.symm q.2.2.2
          · exact q.2.1 u u0 (by omega)
        · intro i i0 i1 ihi x hx
          have he := hQ.el v0 v1 i0 i1
          refine r_iload 5 d_Mod_isAs_43 rfl ?_
          refine r_aload_n 0 d_Mod_isAs_45 rfl rfl ?_
          refine r_getR 184 d_Mod_isAs_46 fk_Mod_52 rfl rfl rfl (by decide) ?_
          refine r_iload 4 d_Mod_isAs_49 rfl ?_
          refine r_iald 3 d_Mod_isAs_51 rfl rfl (by omega) (by omega) ?_
          rw [hz.1]
          refine r_icmp_ge 99 d_Mod_isAs_52 rfl (by omega) (by omega) (fun h52 => absurd h52 (by omega)) (fun h52 => ?_)
          refine r_iload_n 3 d_Mod_isAs_55 rfl rfl ?_
          refine r_if_eq 91 d_Mod_isAs_56 rfl (by omega) (fun h56 => ?_) (fun h56 => ?_)
          · refine r_iconst d_Mod_isAs_91 ?_
            refine r_istore_n 3 d_Mod_isAs_92 rfl (by decide) rfl ?_
            refine r_iinc 5 d_Mod_isAs_93 rfl (by decide) rfl ?_
            refine r_goto 43 d_Mod_isAs_96 rfl ?_
            refine ihi _ ?_
            first
              | (refine Or.inl ⟨rfl, hx1.1, hx1.2.1, fun j j0 j1 => ?_⟩
                 by_cases e : j = i
                 · rw [e]; exact h84.symm
                 · exact hx1.2.2 j j0 (by omega))
              | exact Or.inr ⟨rfl, fun q => h84 (by rw [plk_tr.mp q v v0 v1])⟩
              | exact Or.inr ⟨rfl, (hx.resolve_left (fun q => by omega)).2⟩
          · have hx1 := (hx.resolve_right (fun q => h56 q.1)).2
            have hp := ha3 i i0 (by omega)
            refine r_aload_n 1 d_Mod_isAs_59 rfl rfl ?_
            refine r_iload_n 2 d_Mod_isAs_60 rfl rfl ?_
            refine r_bipush d_Mod_isAs_61 (by decide) ?_
            refine r_iload 4 d_Mod_isAs_63 rfl ?_
            refine r_imul d_Mod_isAs_65 ?_
            refine r_iadd d_Mod_isAs_66 ?_
            refine r_iload 5 d_Mod_isAs_67 rfl ?_
            refine r_iadd d_Mod_isAs_69 ?_
            refine r_iald n d_Mod_isAs_70 hk ha (by omega) (by omega) ?_
            refine r_aload_n 0 d_Mod_isAs_71 rfl rfl ?_
            refine r_getR 183 d_Mod_isAs_72 fk_Mod_49 rfl rfl rfl (by decide) ?_
            refine r_bipush d_Mod_isAs_75 (by decide) ?_
            refine r_iload 4 d_Mod_isAs_77 rfl ?_
            refine r_imul d_Mod_isAs_79 ?_
            refine r_iload 5 d_Mod_isAs_80 rfl ?_
            refine r_iadd d_Mod_isAs_82 ?_
            refine r_iald 36 d_Mod_isAs_83 rfl rfl (by omega) (by omega) ?_
            rw [hp.1, he.1]
            refine r_icmp_ne 91 d_Mod_isAs_84 rfl (by omega) (by omega) (fun h84 => ?_) (fun h84 => ?_)
            · refine r_iconst d_Mod_isAs_91 ?_
              refine r_istore_n 3 d_Mod_isAs_92 rfl (by decide) rfl ?_
              refine r_iinc 5 d_Mod_isAs_93 rfl (by decide) rfl ?_
              refine r_goto 43 d_Mod_isAs_96 rfl ?_
              refine ihi _ ?_
              first
                | (refine Or.inl ⟨rfl, hx1.1, hx1.2.1, fun j j0 j1 => ?_⟩
                   by_cases e : j = i
                   · rw [e]; exact h84.symm
                   · exact hx1.2.2 j j0 (by omega))
                | exact Or.inr ⟨rfl, fun q => h84 (by rw [plk_tr.mp q v v0 v1])⟩
                | exact Or.inr ⟨rfl, (hx.resolve_left (fun q => by omega)).2⟩
            · refine r_iconst d_Mod_isAs_87 ?_
              refine r_goto 92 d_Mod_isAs_88 rfl ?_
              refine r_istore_n 3 d_Mod_isAs_92 rfl (by decide) rfl ?_
              refine r_iinc 5 d_Mod_isAs_93 rfl (by decide) rfl ?_
              refine r_goto 43 d_Mod_isAs_96 rfl ?_
              refine ihi _ ?_
              first
                | (refine Or.inl ⟨rfl, hx1.1, hx1.2.1, fun j j0 j1 => ?_⟩
                   by_cases e : j = i
                   · rw [e]; exact h84.symm
                   · exact hx1.2.2 j j0 (by omega))
                | exact Or.inr ⟨rfl, fun q => h84 (by rw [plk_tr.mp q v v0 v1])⟩
                | exact Or.inr ⟨rfl, (hx.resolve_left (fun q => by omega)).2⟩
      refine r_iload 4 d_Mod_isAs_5 rfl ?_
      refine r_iconst d_Mod_isAs_7 ?_
      refine r_icmp_ge 105 d_Mod_isAs_8 rfl (by omega) (by omega) (fun h8 => absurd h8 (by omega)) (fun h8 => ?_)
      refine r_iload_n 3 d_Mod_isAs_11 rfl rfl ?_
      refine r_if_eq 38 d_Mod_isAs_12 rfl (by omega) (fun h12 => ?_) (fun h12 => ?_)
      · refine r_iconst d_Mod_isAs_38 ?_
        refine r_istore_n 3 d_Mod_isAs_39 rfl (by decide) rfl ?_
        refine r_iconst d_Mod_isAs_40 ?_
        refine r_istore 5 d_Mod_isAs_41 (by decide) rfl ?_
        refine LI 0 (by omega) (by omega) _ ?_
        first
          | exact Or.inl ⟨rfl, (hx.resolve_right (fun q => h12 q.1)).2, h31, fun j j0 j1 => by omega⟩
          | exact Or.inr ⟨rfl, fun q => h31 (by rw [plk_tr.mp q v v0 v1])⟩
          | exact Or.inr ⟨rfl, (hx.resolve_left (fun q => by omega)).2⟩
      · refine r_aload_n 1 d_Mod_isAs_15 rfl rfl ?_
        refine r_iload_n 2 d_Mod_isAs_16 rfl rfl ?_
        refine r_bipush d_Mod_isAs_17 (by decide) ?_
        refine r_iadd d_Mod_isAs_19 ?_
        refine r_iload 4 d_Mod_isAs_20 rfl ?_
        refine r_iadd d_Mod_isAs_22 ?_
        refine r_iald n d_Mod_isAs_23 hk ha (by omega) (by omega) ?_
        refine r_aload_n 0 d_Mod_isAs_24 rfl rfl ?_
        refine r_getR 184 d_Mod_isAs_25 fk_Mod_52 rfl rfl rfl (by decide) ?_
        refine r_iload 4 d_Mod_isAs_28 rfl ?_
        refine r_iald 3 d_Mod_isAs_30 rfl rfl (by omega) (by omega) ?_
        rw [ha1, hz.1]
        refine r_icmp_ne 38 d_Mod_isAs_31 rfl (by omega) (by omega) (fun h31 => ?_) (fun h31 => ?_)
        · refine r_iconst d_Mod_isAs_38 ?_
          refine r_istore_n 3 d_Mod_isAs_39 rfl (by decide) rfl ?_
          refine r_iconst d_Mod_isAs_40 ?_
          refine r_istore 5 d_Mod_isAs_41 (by decide) rfl ?_
          refine LI 0 (by omega) (by omega) _ ?_
          first
            | exact Or.inl ⟨rfl, (hx.resolve_right (fun q => h12 q.1)).2, h31, fun j j0 j1 => by omega⟩
            | exact Or.inr ⟨rfl, fun q => h31 (by rw [plk_tr.mp q v v0 v1])⟩
            | exact Or.inr ⟨rfl, (hx.resolve_left (fun q => by omega)).2⟩
        · refine r_iconst d_Mod_isAs_34 ?_
          refine r_goto 39 d_Mod_isAs_35 rfl ?_
          refine r_istore_n 3 d_Mod_isAs_39 rfl (by decide) rfl ?_
          refine r_iconst d_Mod_isAs_40 ?_
          refine r_istore 5 d_Mod_isAs_41 (by decide) rfl ?_
          refine LI 0 (by omega) (by omega) _ ?_
          first
            | exact Or.inl ⟨rfl, (hx.resolve_right (fun q => h12 q.1)).2, h31, fun j j0 j1 => by omega⟩
            | exact Or.inr ⟨rfl, fun q => h31 (by rw [plk_tr.mp q v v0 v1])⟩
            | exact Or.inr ⟨rfl, (hx.resolve_left (fun q => by omega)).2⟩
  refine ci_of [vR 169, vR c, vI o, vU, vU, vU] fy_Mod_isAs.1 rfl (Nat.le_of_ble_eq_true rfl) ?_
  refine r_iconst d_Mod_isAs_0 ?_
  refine r_istore_n 3 d_Mod_isAs_1 rfl (by decide) rfl ?_
  refine r_iconst d_Mod_isAs_2 ?_
  refine r_istore 4 d_Mod_isAs_3 (by decide) rfl ?_
  exact LV 0 (by omega) (by omega) 1 (Or.inl ⟨rfl, fun u u0 u1 => by omega⟩)
