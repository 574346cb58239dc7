-- THE REFERENCE: build (walks written by wip/whole/gen_rbl.py)
/-- the reference's best put so far -/
def GF (σ : sto) (b : b5) : Prop := σ 169 35 = b.1 ∧ (b.1 ≠ -1 → σ 169 34 = b.2.2.2.2 ∧ σ 169 36 = b.2.1 ∧ σ 169 37 = b.2.2.1 ∧ σ 169 38 = b.2.2.2.1)
theorem GF.keep {σ σ' : sto} {b : b5} (h : GF σ b) (hF : ∀ i : Int, 34 ≤ i → i ≤ 38 → σ' 169 i = σ 169 i) : GF σ' b := by
  unfold GF at *
  rw [hF 35 (by omega) (by omega), hF 34 (by omega) (by omega), hF 36 (by omega) (by omega), hF 37 (by omega) (by omega), hF 38 (by omega) (by omega)]
  exact h
theorem RF.gf {σ σ' : sto} {b : b5} (h : RF σ σ') (hb : GF σ b) : GF σ' b := hb.keep (fun i i0 i1 => h 169 i (by omega) (by omega) (by omega) (by omega))
theorem PRF.gf {σ σ' : sto} {b : b5} (h : PRF σ σ') (hb : GF σ b) : GF σ' b := hb.keep (fun i i0 i1 => h 169 i (by omega) (by omega))
/-- what the search for puts leaves -/
def TF (σ σ' : sto) : Prop := ∀ c i : Int, c ≠ 183 → c ≠ 184 → c ≠ 189 → c ≠ 190 → (c < 192 ∨ 195 < c) → (c ≠ 169 ∨ i < 29 ∨ i = 33 ∨ 38 < i) → σ' c i = σ c i
theorem TF.rf {σ : sto} : TF σ σ := fun _ _ _ _ _ _ _ _ => rfl
theorem TF.tr {σ σ' σ'' : sto} (h : TF σ σ') (g : TF σ' σ'') : TF σ σ'' := fun c i a b d e f k => (g c i a b d e f k).trans (h c i a b d e f k)
theorem RF.tf {σ σ' : sto} (h : RF σ σ') : TF σ σ' := fun c i _ _ q3 q4 q5 q6 => h c i q3 q4 q5 (by omega)
theorem PRF.tf {σ σ' : sto} (h : PRF σ σ') : TF σ σ' := fun c i q1 q2 _ _ _ _ => h c i q1 q2
theorem TF.dr {σ σ' D : sto} {ns nv : Int} (h : TF σ σ') (hC : DR σ D ns nv) : DR σ' D ns nv := hC.keep (fun c i q => h c i (by omega) (by omega) (by omega) (by omega) (by omega) (by omega))
theorem TF.re {σ σ' : sto} {g : G} (h : TF σ σ') (hE : RE σ g) : RE σ' g := hE.keep (fun c i q => h c i (by omega) (by omega) (by omega) (by omega) (by omega) (by omega))
theorem TF.ap {σ σ' : sto} {c o : Int} {P : pln} (h : TF σ σ') (hc : 185 ≤ c ∧ c ≤ 187) (hA : AP σ c o P) : AP σ' c o P := hA.keep (fun k _ _ => h c k (by omega) (by omega) (by omega) (by omega) (by omega) (by omega))
theorem TF.mf {σ σ' : sto} (h : TF σ σ') : MF σ σ' := fun c i q => h c i (by omega) (by omega) (by omega) (by omega) (by omega) (by omega)
theorem mt_looksAt {σ D : sto} {ns nv v s i j e : Int} {P : pln} {b : b5} (hC : DR σ D ns nv) (hO : DOK D ns nv) (hQ : RA σ P) (v0 : 0 ≤ v) (v1 : v < nv) (hl : RV ns (P v)) (he : 0 ≤ e ∧ e ≤ 60000) (hb : GF σ b) (hg : b.1 = -1 ∨ (0 ≤ b.1 ∧ b.1 < 12) ∧ -60000 ≤ b.2.2.2.2 ∧ b.2.2.2.2 ≤ 60000) : CV M_Mod_looksAt 5 [vR 169, vI s, vI v, vI i, vI j, vI e] σ (fun σ' => GF σ' (if whyOf D v (P v) = 0 then wgh b (s, v, i, j, cst D v (P v) - e) else b) ∧ (∀ c k : Int, c ≠ 189 → c ≠ 190 → (c < 192 ∨ 195 < c) → (c ≠ 169 ∨ k < 29 ∨ k = 33 ∨ 38 < k) → σ' c k = σ c k)) := by
  refine cv_of [vR 169, vI s, vI v, vI i, vI j, vI e, vU] fy_Mod_looksAt.1 rfl (Nat.le_of_ble_eq_true rfl) ?_
  refine r_aload_n 0 d_Mod_looksAt_0 rfl rfl ?_
  refine r_iload_n 2 d_Mod_looksAt_1 rfl rfl ?_
  refine r_cVI 8 d_Mod_looksAt_2 lk_Mod_201 vc_Mod_fits (mt_fits hC hO hQ v0 v1 hl) rfl rfl rfl rfl ⟨Nat.le_of_ble_eq_true rfl, Nat.le_of_ble_eq_true rfl⟩ ⟨Nat.zero_le _, Nat.zero_le _⟩ (Nat.le_of_ble_eq_true rfl) (fun r2 s2 q2 => ?_)
  obtain ⟨qa, -, -, qR⟩ := q2
  have hb2 := qR.gf hb
  refine r_if_ne 9 d_Mod_looksAt_5 rfl (by omega) (fun h5 => ?_) (fun h5 => ?_)
  · have qb := qa.resolve_right (fun z => h5 z.1)
    have hw := qb.2.1
    have hN := qb.2.2
    have hc := cst_in hO hl v0 v1 hw
    refine r_aload_n 0 d_Mod_looksAt_9 rfl rfl ?_
    refine r_getI 32 d_Mod_looksAt_10 fk_Mod_185 rfl rfl rfl ?_
    rw [hN.1]
    refine r_iload 5 d_Mod_looksAt_13 rfl ?_
    refine r_isub d_Mod_looksAt_15 ?_
    refine r_istore 6 d_Mod_looksAt_16 (by decide) rfl ?_
    refine r_aload_n 0 d_Mod_looksAt_18 rfl rfl ?_
    refine r_getI 35 d_Mod_looksAt_19 fk_Mod_237 rfl rfl rfl ?_
    rw [hb2.1]
    refine r_if_lt 35 d_Mod_looksAt_22 rfl (by omega) (fun h22 => ?_) (fun h22 => ?_)
    · refine r_aload_n 0 d_Mod_looksAt_35 rfl rfl ?_
      refine r_iload 6 d_Mod_looksAt_36 rfl ?_
      refine r_putI 34 d_Mod_looksAt_38 fk_Mod_240 rfl rfl rfl (Or.inl rfl) ?_
      refine r_aload_n 0 d_Mod_looksAt_41 rfl rfl ?_
      refine r_iload_n 1 d_Mod_looksAt_42 rfl rfl ?_
      refine r_putI 35 d_Mod_looksAt_43 fk_Mod_237 rfl rfl rfl (Or.inl rfl) ?_
      refine r_aload_n 0 d_Mod_looksAt_46 rfl rfl ?_
      refine r_iload_n 2 d_Mod_looksAt_47 rfl rfl ?_
      refine r_putI 36 d_Mod_looksAt_48 fk_Mod_243 rfl rfl rfl (Or.inl rfl) ?_
      refine r_aload_n 0 d_Mod_looksAt_51 rfl rfl ?_
      refine r_iload_n 3 d_Mod_looksAt_52 rfl rfl ?_
      refine r_putI 37 d_Mod_looksAt_53 fk_Mod_246 rfl rfl rfl (Or.inl rfl) ?_
      refine r_aload_n 0 d_Mod_looksAt_56 rfl rfl ?_
      refine r_iload 4 d_Mod_looksAt_57 rfl ?_
      refine r_putI 38 d_Mod_looksAt_59 fk_Mod_249 rfl rfl rfl (Or.inl rfl) ?_
      refine q_vret d_Mod_looksAt_62 rfl ?_
      rw [if_pos hw]
      unfold wgh
      rw [if_neg (by rintro ⟨z1, z2⟩; have z3 : b.2.2.2.2 ≤ cst D v (P v) - e := z2; omega)]
      exact ⟨⟨by repeat (first | rw [wr_eq] | rw [wr_ne (by omega)]), fun _ => ⟨by repeat (first | rw [wr_eq] | rw [wr_ne (by omega)]), by repeat (first | rw [wr_eq] | rw [wr_ne (by omega)]), by repeat (first | rw [wr_eq] | rw [wr_ne (by omega)]), wr_eq⟩⟩, fun c k z1 z2 z3 z4 => by rw [wr_ne (by omega), wr_ne (by omega), wr_ne (by omega), wr_ne (by omega), wr_ne (by omega)]; exact qR c k z1 z2 z3 (by omega)⟩
    · refine r_iload 6 d_Mod_looksAt_25 rfl ?_
      refine r_aload_n 0 d_Mod_looksAt_27 rfl rfl ?_
      refine r_getI 34 d_Mod_looksAt_28 fk_Mod_240 rfl rfl rfl ?_
      rw [(hb2.2 (by omega)).1]
      refine r_icmp_lt 35 d_Mod_looksAt_31 rfl (by omega) (by omega) (fun h31 => ?_) (fun h31 => ?_)
      · refine r_aload_n 0 d_Mod_looksAt_35 rfl rfl ?_
        refine r_iload 6 d_Mod_looksAt_36 rfl ?_
        refine r_putI 34 d_Mod_looksAt_38 fk_Mod_240 rfl rfl rfl (Or.inl rfl) ?_
        refine r_aload_n 0 d_Mod_looksAt_41 rfl rfl ?_
        refine r_iload_n 1 d_Mod_looksAt_42 rfl rfl ?_
        refine r_putI 35 d_Mod_looksAt_43 fk_Mod_237 rfl rfl rfl (Or.inl rfl) ?_
        refine r_aload_n 0 d_Mod_looksAt_46 rfl rfl ?_
        refine r_iload_n 2 d_Mod_looksAt_47 rfl rfl ?_
        refine r_putI 36 d_Mod_looksAt_48 fk_Mod_243 rfl rfl rfl (Or.inl rfl) ?_
        refine r_aload_n 0 d_Mod_looksAt_51 rfl rfl ?_
        refine r_iload_n 3 d_Mod_looksAt_52 rfl rfl ?_
        refine r_putI 37 d_Mod_looksAt_53 fk_Mod_246 rfl rfl rfl (Or.inl rfl) ?_
        refine r_aload_n 0 d_Mod_looksAt_56 rfl rfl ?_
        refine r_iload 4 d_Mod_looksAt_57 rfl ?_
        refine r_putI 38 d_Mod_looksAt_59 fk_Mod_249 rfl rfl rfl (Or.inl rfl) ?_
        refine q_vret d_Mod_looksAt_62 rfl ?_
        rw [if_pos hw]
        unfold wgh
        rw [if_neg (by rintro ⟨z1, z2⟩; have z3 : b.2.2.2.2 ≤ cst D v (P v) - e := z2; omega)]
        exact ⟨⟨by repeat (first | rw [wr_eq] | rw [wr_ne (by omega)]), fun _ => ⟨by repeat (first | rw [wr_eq] | rw [wr_ne (by omega)]), by repeat (first | rw [wr_eq] | rw [wr_ne (by omega)]), by repeat (first | rw [wr_eq] | rw [wr_ne (by omega)]), wr_eq⟩⟩, fun c k z1 z2 z3 z4 => by rw [wr_ne (by omega), wr_ne (by omega), wr_ne (by omega), wr_ne (by omega), wr_ne (by omega)]; exact qR c k z1 z2 z3 (by omega)⟩
      · refine q_vret d_Mod_looksAt_34 rfl ?_
        rw [if_pos hw]
        unfold wgh
        rw [if_pos ⟨by omega, by show b.2.2.2.2 ≤ cst D v (P v) - e; omega⟩]
        exact ⟨hb2, fun c k z1 z2 z3 z4 => qR c k z1 z2 z3 (by omega)⟩
  · refine q_vret d_Mod_looksAt_8 rfl ?_
    have hw := (qa.resolve_left (fun z => by omega)).2
    rw [if_neg hw]
    exact ⟨hb2, fun c k z1 z2 z3 z4 => qR c k z1 z2 z3 (by omega)⟩
theorem mt_triesAll {σ D : sto} {ns nv s v : Int} {P : pln} {b : b5} (hC : DR σ D ns nv) (hO : DOK D ns nv) (hQ : RA σ P) (hP : PO ns nv P) (hA : AF D nv P) (v0 : 0 ≤ v) (v1 : v < nv) (s0 : 0 ≤ s) (s1 : s < ns) (hs : s ∉ al3 P) (hk : D 0 s ≠ 2) (hb : GF σ b) (hg : GB D ns nv P b) : CV M_Mod_triesAll 6 [vR 169, vI s, vI v] σ (fun σ' => RA σ' P ∧ GF σ' (tp D P s v b) ∧ TF σ σ') := by
  have hn := hO.1
  have hl := ln0 (P v)
  have hRV := hP.rv hn.1 hn.2.1
  have hlv := hRV v v0 (by omega)
  have hcs := cst_in hO hlv v0 v1 (hA v v0 v1)
  have hds := hO.2.1 s s0 s1
  have LA : D 6 s = -1 → ∀ i, 0 ≤ i → i ≤ ln (P v) + 1 → ∀ σ1 : sto, RA σ1 P → GF σ1 (tp1N D P s v b i.toNat) → GB D ns nv P (tp1N D P s v b i.toNat) → TF σ σ1 → Run M_Mod_triesAll (rxV 6 (fun σ' => RA σ' P ∧ GF σ' (tp D P s v b) ∧ TF σ σ')) (0, 0) 9 [vR 169, vI s, vI v, vI (cst D v (P v)), vI i, vU] [] (sg σ1) := by
    intro hm
    have etp : tp D P s v b = tp1N D P s v b (ln (P v) + 1).toNat := if_pos hm
    refine up_ind (b := ln (P v) + 1) ?_ ?_
    · intro σ1 hQ1 hb1 hg1 hF1
      have hz1 := hQ1.len v0 (show v < 3 by omega)
      refine r_iload 4 d_Mod_triesAll_9 rfl ?_
      refine r_aload_n 0 d_Mod_triesAll_11 rfl rfl ?_
      refine r_getR 184 d_Mod_triesAll_12 fk_Mod_52 rfl rfl rfl (by decide) ?_
      refine r_iload_n 2 d_Mod_triesAll_15 rfl rfl ?_
      refine r_iald 3 d_Mod_triesAll_16 rfl rfl (by omega) (by omega) ?_
      rw [hz1.1]
      refine r_icmp_gt 121 d_Mod_triesAll_17 rfl (by omega) (by omega) (fun h17 => ?_) (fun h17 => absurd h17 (by omega))
      refine q_vret d_Mod_triesAll_121 rfl ?_
      exact ⟨hQ1, by rw [etp]; exact hb1, hF1⟩
    · intro i i0 i1 ih σ1 hQ1 hb1 hg1 hF1
      have ro := row_ok hO hP v0 v1 i0 (show i ≤ ln (P v) by omega) s0 s1 hs
      have hri := rmv_ins (P := P) (v := v) (i := i) (s := s) v0 (by omega) i0 (by omega) hs
      have hin := (ins_mem (P := P) (s := s) (x := s) v0 (show v < 3 by omega) i0 (show i ≤ ln (P v) by omega)).mpr (Or.inl rfl)
      have hz1 := hQ1.len v0 (show v < 3 by omega)
      refine r_iload 4 d_Mod_triesAll_9 rfl ?_
      refine r_aload_n 0 d_Mod_triesAll_11 rfl rfl ?_
      refine r_getR 184 d_Mod_triesAll_12 fk_Mod_52 rfl rfl rfl (by decide) ?_
      refine r_iload_n 2 d_Mod_triesAll_15 rfl rfl ?_
      refine r_iald 3 d_Mod_triesAll_16 rfl rfl (by omega) (by omega) ?_
      rw [hz1.1]
      refine r_icmp_gt 121 d_Mod_triesAll_17 rfl (by omega) (by omega) (fun h17 => absurd h17 (by omega)) (fun h17 => ?_)
      refine r_aload_n 0 d_Mod_triesAll_20 rfl rfl ?_
      refine r_iload_n 1 d_Mod_triesAll_21 rfl rfl ?_
      refine r_iload_n 2 d_Mod_triesAll_22 rfl rfl ?_
      refine r_iload 4 d_Mod_triesAll_23 rfl ?_
      refine r_cVV 8 d_Mod_triesAll_25 lk_Mod_224 vc_Mod_puts (mt_puts hQ1 v0 (by omega) i0 (by omega) ro.2.2.2 s0 (by omega)) rfl rfl rfl rfl ⟨Nat.le_of_ble_eq_true rfl, Nat.le_of_ble_eq_true rfl⟩ ⟨Nat.zero_le _, Nat.zero_le _⟩ (Nat.le_of_ble_eq_true rfl) (fun s25 q25 => ?_)
      obtain ⟨b1, b2⟩ := q25
      have hC2 := b2.dr (hF1.dr hC)
      have hb2 := b2.gf hb1
      have hm2 := (hC2.at (s := s) (by omega) (by omega)).2.2.2.2.2.1
      have hz2 := b1.len v0 (show v < 3 by omega)
      rw [up_eq, ln_ins] at hz2
      refine r_aload_n 0 d_Mod_triesAll_28 rfl rfl ?_
      refine r_getR 177 d_Mod_triesAll_29 fk_Mod_31 rfl rfl rfl (by decide) ?_
      refine r_iload_n 1 d_Mod_triesAll_32 rfl rfl ?_
      refine r_iald 12 d_Mod_triesAll_33 rfl rfl (by omega) (by omega) ?_
      rw [hm2]
      refine r_if_ge 47 d_Mod_triesAll_34 rfl (by omega) (fun h34 => absurd h34 (by omega)) (fun h34 => ?_)
      refine r_aload_n 0 d_Mod_triesAll_37 rfl rfl ?_
      refine r_iload_n 1 d_Mod_triesAll_38 rfl rfl ?_
      refine r_iload_n 2 d_Mod_triesAll_39 rfl rfl ?_
      refine r_iload 4 d_Mod_triesAll_40 rfl ?_
      refine r_iconst d_Mod_triesAll_42 ?_
      refine r_iload_n 3 d_Mod_triesAll_43 rfl rfl ?_
      refine r_cVV 8 d_Mod_triesAll_44 lk_Mod_252 vc_Mod_looksAt (mt_looksAt hC2 hO b1 v0 v1 (by rw [up_eq]; exact ro.2.2.1) hcs hb2 (hg1.lim hn.2.1)) rfl rfl rfl rfl ⟨Nat.le_of_ble_eq_true rfl, Nat.le_of_ble_eq_true rfl⟩ ⟨Nat.zero_le _, Nat.zero_le _⟩ (Nat.le_of_ble_eq_true rfl) (fun s44 q44 => ?_)
      obtain ⟨c1, c2⟩ := q44
      rw [up_eq] at c1
      have hC3 := hC2.keep (σ' := s44) (fun c k z => c2 c k (by omega) (by omega) (by omega) (by omega))
      have hQ3 := b1.keep (σ' := s44) (fun c k z => c2 c k (by omega) (by omega) (by omega) (by omega))
      have hm3 := (hC3.at (s := s) (by omega) (by omega)).2.2.2.2.2.1
      have hz3 := hQ3.len v0 (show v < 3 by omega)
      rw [up_eq, ln_ins] at hz3
      refine r_iconst d_Mod_triesAll_47 ?_
      refine r_istore 5 d_Mod_triesAll_48 (by decide) rfl ?_
      refine r_iload 5 d_Mod_triesAll_50 rfl ?_
      refine r_aload_n 0 d_Mod_triesAll_52 rfl rfl ?_
      refine r_getR 184 d_Mod_triesAll_53 fk_Mod_52 rfl rfl rfl (by decide) ?_
      refine r_iload_n 2 d_Mod_triesAll_56 rfl rfl ?_
      refine r_iald 3 d_Mod_triesAll_57 rfl rfl (by omega) (by omega) ?_
      rw [hz3.1]
      refine r_icmp_gt 110 d_Mod_triesAll_58 rfl (by omega) (by omega) (fun h58 => absurd h58 (by omega)) (fun h58 => ?_)
      refine r_aload_n 0 d_Mod_triesAll_61 rfl rfl ?_
      refine r_getR 177 d_Mod_triesAll_62 fk_Mod_31 rfl rfl rfl (by decide) ?_
      refine r_iload_n 1 d_Mod_triesAll_65 rfl rfl ?_
      refine r_iald 12 d_Mod_triesAll_66 rfl rfl (by omega) (by omega) ?_
      rw [hm3]
      refine r_if_lt 110 d_Mod_triesAll_67 rfl (by omega) (fun h67 => ?_) (fun h67 => absurd h67 (by omega))
      refine r_aload_n 0 d_Mod_triesAll_110 rfl rfl ?_
      refine r_iload_n 1 d_Mod_triesAll_111 rfl rfl ?_
      refine r_cVV 8 d_Mod_triesAll_112 lk_Mod_228 vc_Mod_takesOut (mt_takesOut hC3 ⟨hn.2.2.1, hn.2.2.2⟩ hQ3 ro.1 (by omega) hin) rfl rfl rfl rfl ⟨Nat.le_of_ble_eq_true rfl, Nat.le_of_ble_eq_true rfl⟩ ⟨Nat.zero_le _, Nat.zero_le _⟩ (Nat.le_of_ble_eq_true rfl) (fun s112 q112 => ?_)
      obtain ⟨d1, d2⟩ := q112
      rw [hri.2.2] at d1
      refine r_iinc 4 d_Mod_triesAll_115 rfl (by decide) rfl ?_
      refine r_goto 9 d_Mod_triesAll_118 rfl ?_
      have e1 := nS (tp1N D P s v b) (w1 D P s v) (fun _ => rfl) i0
      have hg2 := GB.c1 hO hP hA v0 v1 i0 (show i ≤ ln (P v) by omega) s0 s1 hs hk hm hg1
      refine r_drop 5 (ih _ d1 ?_ (by rw [e1]; exact hg2) (fun c k z1 z2 z3 z4 z5 z6 => by rw [d2 c k z1 z2, c2 c k z3 z4 z5 z6, b2 c k z1 z2]; exact hF1 c k z1 z2 z3 z4 z5 z6))
      rw [e1]
      exact d2.gf c1
  have LB : D 6 s ≠ -1 → ∀ i, 0 ≤ i → i ≤ ln (P v) + 1 → ∀ σ1 : sto, RA σ1 P → GF σ1 (tp2N D P s v b i.toNat) → GB D ns nv P (tp2N D P s v b i.toNat) → TF σ σ1 → Run M_Mod_triesAll (rxV 6 (fun σ' => RA σ' P ∧ GF σ' (tp D P s v b) ∧ TF σ σ')) (0, 0) 9 [vR 169, vI s, vI v, vI (cst D v (P v)), vI i, vU] [] (sg σ1) := by
    intro hm
    have etp : tp D P s v b = tp2N D P s v b (ln (P v) + 1).toNat := if_neg hm
    have hdm := pair_out hO hP hA s0 s1 hs hk hm
    refine up_ind (b := ln (P v) + 1) ?_ ?_
    · intro σ1 hQ1 hb1 hg1 hF1
      have hz1 := hQ1.len v0 (show v < 3 by omega)
      refine r_iload 4 d_Mod_triesAll_9 rfl ?_
      refine r_aload_n 0 d_Mod_triesAll_11 rfl rfl ?_
      refine r_getR 184 d_Mod_triesAll_12 fk_Mod_52 rfl rfl rfl (by decide) ?_
      refine r_iload_n 2 d_Mod_triesAll_15 rfl rfl ?_
      refine r_iald 3 d_Mod_triesAll_16 rfl rfl (by omega) (by omega) ?_
      rw [hz1.1]
      refine r_icmp_gt 121 d_Mod_triesAll_17 rfl (by omega) (by omega) (fun h17 => ?_) (fun h17 => absurd h17 (by omega))
      refine q_vret d_Mod_triesAll_121 rfl ?_
      exact ⟨hQ1, by rw [etp]; exact hb1, hF1⟩
    · intro i i0 i1 ih σ1 hQ1 hb1 hg1 hF1
      have ro := row_ok hO hP v0 v1 i0 (show i ≤ ln (P v) by omega) s0 s1 hs
      have hri := rmv_ins (P := P) (v := v) (i := i) (s := s) v0 (by omega) i0 (by omega) hs
      have hin := (ins_mem (P := P) (s := s) (x := s) v0 (show v < 3 by omega) i0 (show i ≤ ln (P v) by omega)).mpr (Or.inl rfl)
      have hz1 := hQ1.len v0 (show v < 3 by omega)
      have hx : D 6 s ∉ al3 (up P v (insA (P v) i s)) := fun q => by
        rcases (ins_mem v0 (show v < 3 by omega) i0 (show i ≤ ln (P v) by omega)).mp q with q | q
        · exact hdm.2.2.2.2.2.2 q
        · exact hdm.2.2.2.2.2.1 q
      have LJ : ∀ j, 0 ≤ j → j ≤ ln (P v) + 2 → ∀ σ2 : sto, RA σ2 (up P v (insA (P v) i s)) → GF σ2 (tjN D P s v i (tp2N D P s v b i.toNat) j.toNat) → GB D ns nv P (tjN D P s v i (tp2N D P s v b i.toNat) j.toNat) → TF σ σ2 → Run M_Mod_triesAll (rxV 6 (fun σ' => RA σ' P ∧ GF σ' (tp D P s v b) ∧ TF σ σ')) (0, 0) 50 [vR 169, vI s, vI v, vI (cst D v (P v)), vI i, vI j] [] (sg σ2) := by
        refine up_ind (b := ln (P v) + 2) ?_ ?_
        · intro σ2 hQ2 hb2 hg2 hF2
          have hz2 := hQ2.len v0 (show v < 3 by omega)
          rw [up_eq, ln_ins] at hz2
          refine r_iload 5 d_Mod_triesAll_50 rfl ?_
          refine r_aload_n 0 d_Mod_triesAll_52 rfl rfl ?_
          refine r_getR 184 d_Mod_triesAll_53 fk_Mod_52 rfl rfl rfl (by decide) ?_
          refine r_iload_n 2 d_Mod_triesAll_56 rfl rfl ?_
          refine r_iald 3 d_Mod_triesAll_57 rfl rfl (by omega) (by omega) ?_
          rw [hz2.1]
          refine r_icmp_gt 110 d_Mod_triesAll_58 rfl (by omega) (by omega) (fun h58 => ?_) (fun h58 => absurd h58 (by omega))
          refine r_aload_n 0 d_Mod_triesAll_110 rfl rfl ?_
          refine r_iload_n 1 d_Mod_triesAll_111 rfl rfl ?_
          refine r_cVV 8 d_Mod_triesAll_112 lk_Mod_228 vc_Mod_takesOut (mt_takesOut (hF2.dr hC) ⟨hn.2.2.1, hn.2.2.2⟩ hQ2 ro.1 (by omega) hin) rfl rfl rfl rfl ⟨Nat.le_of_ble_eq_true rfl, Nat.le_of_ble_eq_true rfl⟩ ⟨Nat.zero_le _, Nat.zero_le _⟩ (Nat.le_of_ble_eq_true rfl) (fun s112 q112 => ?_)
          obtain ⟨d1, d2⟩ := q112
          rw [hri.2.2] at d1
          refine r_iinc 4 d_Mod_triesAll_115 rfl (by decide) rfl ?_
          refine r_goto 9 d_Mod_triesAll_118 rfl ?_
          have e1 := nS (tp2N D P s v b) (fun b i => tjN D P s v i b (ln (P v) + 2).toNat) (fun _ => rfl) i0
          refine r_drop 5 (ih _ d1 ?_ (by rw [e1]; exact hg2) (hF2.tr d2.tf))
          rw [e1]
          exact d2.gf hb2
        · intro j j0 j1 ihj σ2 hQ2 hb2 hg2 hF2
          have hz2 := hQ2.len v0 (show v < 3 by omega)
          rw [up_eq, ln_ins] at hz2
          have hC2 := hF2.dr hC
          have hm2 := (hC2.at (s := s) (by omega) (by omega)).2.2.2.2.2.1
          have rw2 := row2_ok hO hP hA v0 v1 i0 (show i ≤ ln (P v) by omega) j0 (show j ≤ ln (P v) + 1 by omega) s0 s1 hs hk hm
          have hrj := rmv_ins (P := up P v (insA (P v) i s)) (v := v) (i := j) (s := D 6 s) v0 (by omega) j0 (by rw [up_eq, ln_ins]; omega) hx
          have hij := (ins_mem (P := up P v (insA (P v) i s)) (s := D 6 s) (x := D 6 s) (v := v) (i := j) v0 (by omega) j0 (by rw [up_eq, ln_ins]; omega)).mpr (Or.inl rfl)
          rw [up_up, up_eq] at hrj hij
          refine r_iload 5 d_Mod_triesAll_50 rfl ?_
          refine r_aload_n 0 d_Mod_triesAll_52 rfl rfl ?_
          refine r_getR 184 d_Mod_triesAll_53 fk_Mod_52 rfl rfl rfl (by decide) ?_
          refine r_iload_n 2 d_Mod_triesAll_56 rfl rfl ?_
          refine r_iald 3 d_Mod_triesAll_57 rfl rfl (by omega) (by omega) ?_
          rw [hz2.1]
          refine r_icmp_gt 110 d_Mod_triesAll_58 rfl (by omega) (by omega) (fun h58 => absurd h58 (by omega)) (fun h58 => ?_)
          refine r_aload_n 0 d_Mod_triesAll_61 rfl rfl ?_
          refine r_getR 177 d_Mod_triesAll_62 fk_Mod_31 rfl rfl rfl (by decide) ?_
          refine r_iload_n 1 d_Mod_triesAll_65 rfl rfl ?_
          refine r_iald 12 d_Mod_triesAll_66 rfl rfl (by omega) (by omega) ?_
          rw [hm2]
          refine r_if_lt 110 d_Mod_triesAll_67 rfl (by omega) (fun h67 => absurd h67 (by omega)) (fun h67 => ?_)
          refine r_aload_n 0 d_Mod_triesAll_70 rfl rfl ?_
          refine r_aload_n 0 d_Mod_triesAll_71 rfl rfl ?_
          refine r_getR 177 d_Mod_triesAll_72 fk_Mod_31 rfl rfl rfl (by decide) ?_
          refine r_iload_n 1 d_Mod_triesAll_75 rfl rfl ?_
          refine r_iald 12 d_Mod_triesAll_76 rfl rfl (by omega) (by omega) ?_
          rw [hm2]
          refine r_iload_n 2 d_Mod_triesAll_77 rfl rfl ?_
          refine r_iload 5 d_Mod_triesAll_78 rfl ?_
          refine r_cVV 8 d_Mod_triesAll_80 lk_Mod_224 vc_Mod_puts (mt_puts hQ2 v0 (by omega) j0 (by rw [up_eq, ln_ins]; omega) (by rw [up_eq, ln_ins]; exact rw2.2.2.2) (by omega) (by omega)) rfl rfl rfl rfl ⟨Nat.le_of_ble_eq_true rfl, Nat.le_of_ble_eq_true rfl⟩ ⟨Nat.zero_le _, Nat.zero_le _⟩ (Nat.le_of_ble_eq_true rfl) (fun s80 q80 => ?_)
          obtain ⟨b1, b2⟩ := q80
          rw [up_up, up_eq] at b1
          have hb3 := b2.gf hb2
          have hC3 := b2.dr hC2
          have hrow : up P v (insA (insA (P v) i s) j (D 6 s)) v = row2 D P s v i j := up_eq
          refine r_aload_n 0 d_Mod_triesAll_83 rfl rfl ?_
          refine r_iload_n 1 d_Mod_triesAll_84 rfl rfl ?_
          refine r_iload_n 2 d_Mod_triesAll_85 rfl rfl ?_
          refine r_iload 4 d_Mod_triesAll_86 rfl ?_
          refine r_iload 5 d_Mod_triesAll_88 rfl ?_
          refine r_iload_n 3 d_Mod_triesAll_90 rfl rfl ?_
          refine r_cVV 8 d_Mod_triesAll_91 lk_Mod_252 vc_Mod_looksAt (mt_looksAt hC3 hO b1 v0 v1 (by rw [hrow]; exact rw2.2.2.1) hcs hb3 (hg2.lim hn.2.1)) rfl rfl rfl rfl ⟨Nat.le_of_ble_eq_true rfl, Nat.le_of_ble_eq_true rfl⟩ ⟨Nat.zero_le _, Nat.zero_le _⟩ (Nat.le_of_ble_eq_true rfl) (fun s91 q91 => ?_)
          obtain ⟨c1, c2⟩ := q91
          rw [hrow] at c1
          have hC4 := hC3.keep (σ' := s91) (fun c k z => c2 c k (by omega) (by omega) (by omega) (by omega))
          have hQ4 := b1.keep (σ' := s91) (fun c k z => c2 c k (by omega) (by omega) (by omega) (by omega))
          have hm3 := (hC4.at (s := s) (by omega) (by omega)).2.2.2.2.2.1
          refine r_aload_n 0 d_Mod_triesAll_94 rfl rfl ?_
          refine r_aload_n 0 d_Mod_triesAll_95 rfl rfl ?_
          refine r_getR 177 d_Mod_triesAll_96 fk_Mod_31 rfl rfl rfl (by decide) ?_
          refine r_iload_n 1 d_Mod_triesAll_99 rfl rfl ?_
          refine r_iald 12 d_Mod_triesAll_100 rfl rfl (by omega) (by omega) ?_
          rw [hm3]
          refine r_cVV 8 d_Mod_triesAll_101 lk_Mod_228 vc_Mod_takesOut (mt_takesOut hC4 ⟨hn.2.2.1, hn.2.2.2⟩ hQ4 rw2.1 (by omega) hij) rfl rfl rfl rfl ⟨Nat.le_of_ble_eq_true rfl, Nat.le_of_ble_eq_true rfl⟩ ⟨Nat.zero_le _, Nat.zero_le _⟩ (Nat.le_of_ble_eq_true rfl) (fun s101 q101 => ?_)
          obtain ⟨d1, d2⟩ := q101
          rw [hrj.2.2] at d1
          refine r_iinc 5 d_Mod_triesAll_104 rfl (by decide) rfl ?_
          refine r_goto 50 d_Mod_triesAll_107 rfl ?_
          have e1 := nS (tjN D P s v i (tp2N D P s v b i.toNat)) (w2 D P s v i) (fun _ => rfl) j0
          have hg3 := GB.c2 hO hP hA v0 v1 i0 (show i ≤ ln (P v) by omega) j0 (show j ≤ ln (P v) + 1 by omega) s0 s1 hs hk hm hg2
          refine ihj _ d1 ?_ (by rw [e1]; exact hg3) (fun c k z1 z2 z3 z4 z5 z6 => by rw [d2 c k z1 z2, c2 c k z3 z4 z5 z6, b2 c k z1 z2]; exact hF2 c k z1 z2 z3 z4 z5 z6)
          rw [e1]
          exact d2.gf c1
      refine r_iload 4 d_Mod_triesAll_9 rfl ?_
      refine r_aload_n 0 d_Mod_triesAll_11 rfl rfl ?_
      refine r_getR 184 d_Mod_triesAll_12 fk_Mod_52 rfl rfl rfl (by decide) ?_
      refine r_iload_n 2 d_Mod_triesAll_15 rfl rfl ?_
      refine r_iald 3 d_Mod_triesAll_16 rfl rfl (by omega) (by omega) ?_
      rw [hz1.1]
      refine r_icmp_gt 121 d_Mod_triesAll_17 rfl (by omega) (by omega) (fun h17 => absurd h17 (by omega)) (fun h17 => ?_)
      refine r_aload_n 0 d_Mod_triesAll_20 rfl rfl ?_
      refine r_iload_n 1 d_Mod_triesAll_21 rfl rfl ?_
      refine r_iload_n 2 d_Mod_triesAll_22 rfl rfl ?_
      refine r_iload 4 d_Mod_triesAll_23 rfl ?_
      refine r_cVV 8 d_Mod_triesAll_25 lk_Mod_224 vc_Mod_puts (mt_puts hQ1 v0 (by omega) i0 (by omega) ro.2.2.2 s0 (by omega)) rfl rfl rfl rfl ⟨Nat.le_of_ble_eq_true rfl, Nat.le_of_ble_eq_true rfl⟩ ⟨Nat.zero_le _, Nat.zero_le _⟩ (Nat.le_of_ble_eq_true rfl) (fun s25 q25 => ?_)
      obtain ⟨b1, b2⟩ := q25
      have hC2 := b2.dr (hF1.dr hC)
      have hb2 := b2.gf hb1
      have hm2 := (hC2.at (s := s) (by omega) (by omega)).2.2.2.2.2.1
      have hz2 := b1.len v0 (show v < 3 by omega)
      rw [up_eq, ln_ins] at hz2
      refine r_aload_n 0 d_Mod_triesAll_28 rfl rfl ?_
      refine r_getR 177 d_Mod_triesAll_29 fk_Mod_31 rfl rfl rfl (by decide) ?_
      refine r_iload_n 1 d_Mod_triesAll_32 rfl rfl ?_
      refine r_iald 12 d_Mod_triesAll_33 rfl rfl (by omega) (by omega) ?_
      rw [hm2]
      refine r_if_ge 47 d_Mod_triesAll_34 rfl (by omega) (fun h34 => ?_) (fun h34 => absurd h34 (by omega))
      refine r_iconst d_Mod_triesAll_47 ?_
      refine r_istore 5 d_Mod_triesAll_48 (by decide) rfl ?_
      exact LJ 0 (by omega) (by omega) _ b1 hb2 hg1 (hF1.tr b2.tf)
  refine cv_of [vR 169, vI s, vI v, vU, vU, vU] fy_Mod_triesAll.1 rfl (Nat.le_of_ble_eq_true rfl) ?_
  refine r_aload_n 0 d_Mod_triesAll_0 rfl rfl ?_
  refine r_iload_n 2 d_Mod_triesAll_1 rfl rfl ?_
  refine r_cVI 8 d_Mod_triesAll_2 lk_Mod_204 vc_Mod_costOf (mt_costOf hC hO hQ v0 v1 hlv) rfl rfl rfl rfl ⟨Nat.le_of_ble_eq_true rfl, Nat.le_of_ble_eq_true rfl⟩ ⟨Nat.zero_le _, Nat.zero_le _⟩ (Nat.le_of_ble_eq_true rfl) (fun r2 s2 q2 => ?_)
  obtain ⟨e, qR⟩ := q2
  have e := e (hA v v0 v1)
  subst e
  refine r_istore_n 3 d_Mod_triesAll_5 rfl (by decide) rfl ?_
  refine r_iconst d_Mod_triesAll_6 ?_
  refine r_istore 4 d_Mod_triesAll_7 (by decide) rfl ?_
  by_cases hm : D 6 s = -1
  · exact LA hm 0 (by omega) (by omega) _ (qR.ra hQ) (qR.gf hb) hg qR.tf
  · exact LB hm 0 (by omega) (by omega) _ (qR.ra hQ) (qR.gf hb) hg qR.tf
theorem cr_build {σ : sto} {g : G} (hI : RI σ g) (hk : g.ok) : CI M_Mod_build 14 [vR 169] σ (QM (sp_build g) σ) := by
  obtain ⟨hQ, hE⟩ := id hI
  obtain ⟨hC, hU, h45, hrow, h33, hrf⟩ := id hE
  obtain ⟨k1, k2, k3, k4, k5, k6⟩ := id hk
  have hn := k1.1
  have hRV := k2.rv hn.1 hn.2.1
  have kend : ∀ (σ1 : sto) (x : Int), RE σ1 g → AP σ1 186 0 g.P → RA σ1 (bld g.D g.ns g.nv g.P) → MF σ σ1 → x = szP (bld g.D g.ns g.nv g.P) - szP g.P → Run M_Mod_build (rxI 14 (QM (sp_build g) σ)) (0, 0) 13 [vR 169, vI x, vI 0, vU, vU] [] (sg σ1) := by
    intro σ1 x hE1 hA1 hQ1 hM1 hx
    refine r_iload_n 2 d_Mod_build_13 rfl rfl ?_
    refine r_if_eq 157 d_Mod_build_14 rfl (by omega) (fun h14 => ?_) (fun h14 => absurd h14 (by omega))
    refine r_aload_n 0 d_Mod_build_157 rfl rfl ?_
    refine r_cVV 8 d_Mod_build_158 lk_Mod_221 vc_Mod_notes (mt_notes hQ1 hA1 hE1.2.1) rfl rfl rfl rfl ⟨Nat.le_of_ble_eq_true rfl, Nat.le_of_ble_eq_true rfl⟩ ⟨Nat.zero_le _, Nat.zero_le _⟩ (Nat.le_of_ble_eq_true rfl) (fun s158 q158 => ?_)
    obtain ⟨n1, n2⟩ := q158
    refine r_iload_n 1 d_Mod_build_161 rfl rfl ?_
    refine q_iret d_Mod_build_162 rfl ?_
    exact qn_ok (RI.adopt hQ1 hE1 n1 n2) (hM1.tr (fun c i q => n2 c i (by omega) (by omega))) (by rw [hx]; rfl)
  have find : ∀ (Q : pln) (x : Int) (σ0 : sto), RE σ0 g → RA σ0 Q → PO g.ns g.nv Q → AF g.D g.nv Q → (∀ σ2 : sto, RA σ2 Q → GF σ2 (fp g.D g.ns g.nv Q) → TF σ0 σ2 → Run M_Mod_build (rxI 14 (QM (sp_build g) σ)) (0, 0) 81 [vR 169, vI x, vI 1, vU, vU] [] (sg σ2)) → Run M_Mod_build (rxI 14 (QM (sp_build g) σ)) (0, 0) 17 [vR 169, vI x, vI 1, vU, vU] [] (sg σ0) := by
    intro Q x σ0 hE0 hQ0 hP hA hx
    have hC0 := hE0.1
    have LS : ∀ s, 0 ≤ s → s ≤ g.ns → ∀ σ1 : sto, RA σ1 Q → GF σ1 (fpN g.D g.nv Q (-1, 0, 0, 0, 0) s.toNat) → TF σ0 σ1 → Run M_Mod_build (rxI 14 (QM (sp_build g) σ)) (0, 0) 24 [vR 169, vI x, vI 1, vI s, vU] [] (sg σ1) := by
      refine up_ind (b := g.ns) ?_ ?_
      · intro σ1 hQ1 hb1 hF1
        have h13 := (hF1.dr hC0).1
        refine r_iload_n 3 d_Mod_build_24 rfl rfl ?_
        refine r_aload_n 0 d_Mod_build_25 rfl rfl ?_
        refine r_getI 13 d_Mod_build_26 fk_Mod_102 rfl rfl rfl ?_
        rw [h13]
        refine r_icmp_ge 81 d_Mod_build_29 rfl (by omega) (by omega) (fun h29 => ?_) (fun h29 => absurd h29 (by omega))
        exact r_drop 3 (hx σ1 hQ1 hb1 hF1)
      · intro s s0 s1 ihs σ1 hQ1 hb1 hF1
        have h13 := (hF1.dr hC0).1
        have hds := k1.2.1 s s0 s1
        have hgs : GB g.D g.ns g.nv Q (fpN g.D g.nv Q (-1, 0, 0, 0, 0) s.toNat) := GB.fpN k1 hP hA (Or.inl rfl) _ (by omega)
        have e1 := nS (fpN g.D g.nv Q (-1, 0, 0, 0, 0)) (fs g.D g.nv Q) (fun _ => rfl) s0
        by_cases hd : g.D 0 s = 2 ∨ s ∈ al3 Q
        · have e2 : fs g.D g.nv Q (fpN g.D g.nv Q (-1, 0, 0, 0, 0) s.toNat) s = fpN g.D g.nv Q (-1, 0, 0, 0, 0) s.toNat := by unfold fs; rw [if_pos hd]
          have LV : ∀ v, 0 ≤ v → v ≤ g.nv → Run M_Mod_build (rxI 14 (QM (sp_build g) σ)) (0, 0) 35 [vR 169, vI x, vI 1, vI s, vI v] [] (sg σ1) := by
            refine up_ind (b := g.nv) ?_ ?_
            · have h14 := (hF1.dr hC0).2.1
              refine r_iload 4 d_Mod_build_35 rfl ?_
              refine r_aload_n 0 d_Mod_build_37 rfl rfl ?_
              refine r_getI 14 d_Mod_build_38 fk_Mod_105 rfl rfl rfl ?_
              rw [h14]
              refine r_icmp_ge 75 d_Mod_build_41 rfl (by omega) (by omega) (fun h41 => ?_) (fun h41 => absurd h41 (by omega))
              refine r_iinc 3 d_Mod_build_75 rfl (by decide) rfl ?_
              refine r_goto 24 d_Mod_build_78 rfl ?_
              exact r_drop 4 (ihs σ1 hQ1 (by rw [e1, e2]; exact hb1) hF1)
            · intro v v0 v1 ihv
              have h14 := (hF1.dr hC0).2.1
              have hat := (hF1.dr hC0).at (s := s) (by omega) (by omega)
              have hvi := vanOf_in Q s
              refine r_iload 4 d_Mod_build_35 rfl ?_
              refine r_aload_n 0 d_Mod_build_37 rfl rfl ?_
              refine r_getI 14 d_Mod_build_38 fk_Mod_105 rfl rfl rfl ?_
              rw [h14]
              refine r_icmp_ge 75 d_Mod_build_41 rfl (by omega) (by omega) (fun h41 => absurd h41 (by omega)) (fun h41 => ?_)
              refine r_aload_n 0 d_Mod_build_44 rfl rfl ?_
              refine r_getR 171 d_Mod_build_45 fk_Mod_13 rfl rfl rfl (by decide) ?_
              refine r_iload_n 3 d_Mod_build_48 rfl rfl ?_
              refine r_iald 12 d_Mod_build_49 rfl rfl (by omega) (by omega) ?_
              rw [hat.1]
              refine r_iconst d_Mod_build_50 ?_
              refine r_icmp_eq 69 d_Mod_build_51 rfl (by omega) (by omega) (fun h51 => ?_) (fun h51 => ?_)
              · refine r_iinc 4 d_Mod_build_69 rfl (by decide) rfl ?_
                refine r_goto 35 d_Mod_build_72 rfl ?_
                exact ihv
              · refine r_aload_n 0 d_Mod_build_54 rfl rfl ?_
                refine r_iload_n 3 d_Mod_build_55 rfl rfl ?_
                refine r_cVP 8 d_Mod_build_56 lk_Mod_156 vc_Mod_vanOf (mt_vanOf (hF1.dr hC0) ⟨hn.2.2.1, hn.2.2.2⟩ hQ1 hP (by omega)) rfl rfl rfl rfl ⟨Nat.le_of_ble_eq_true rfl, Nat.le_of_ble_eq_true rfl⟩ ⟨Nat.zero_le _, Nat.zero_le _⟩ (Nat.le_of_ble_eq_true rfl) ?_
                refine r_if_ge 69 d_Mod_build_59 rfl (by omega) (fun h59 => ?_) (fun h59 => absurd h59 (by have := vanOf_yes hP (hd.resolve_left h51); omega))
                refine r_iinc 4 d_Mod_build_69 rfl (by decide) rfl ?_
                refine r_goto 35 d_Mod_build_72 rfl ?_
                exact ihv
          refine r_iload_n 3 d_Mod_build_24 rfl rfl ?_
          refine r_aload_n 0 d_Mod_build_25 rfl rfl ?_
          refine r_getI 13 d_Mod_build_26 fk_Mod_102 rfl rfl rfl ?_
          rw [h13]
          refine r_icmp_ge 81 d_Mod_build_29 rfl (by omega) (by omega) (fun h29 => absurd h29 (by omega)) (fun h29 => ?_)
          refine r_iconst d_Mod_build_32 ?_
          refine r_istore 4 d_Mod_build_33 (by decide) rfl ?_
          exact LV 0 (by omega) (by omega)
        · have e2 : fs g.D g.nv Q (fpN g.D g.nv Q (-1, 0, 0, 0, 0) s.toNat) s = fvN g.D Q s (fpN g.D g.nv Q (-1, 0, 0, 0, 0) s.toNat) g.nv.toNat := by unfold fs; rw [if_neg hd]
          have LV : ∀ v, 0 ≤ v → v ≤ g.nv → ∀ σ2 : sto, RA σ2 Q → GF σ2 (fvN g.D Q s (fpN g.D g.nv Q (-1, 0, 0, 0, 0) s.toNat) v.toNat) → TF σ0 σ2 → Run M_Mod_build (rxI 14 (QM (sp_build g) σ)) (0, 0) 35 [vR 169, vI x, vI 1, vI s, vI v] [] (sg σ2) := by
            refine up_ind (b := g.nv) ?_ ?_
            · intro σ2 hQ2 hb2 hF2
              have h14 := (hF2.dr hC0).2.1
              refine r_iload 4 d_Mod_build_35 rfl ?_
              refine r_aload_n 0 d_Mod_build_37 rfl rfl ?_
              refine r_getI 14 d_Mod_build_38 fk_Mod_105 rfl rfl rfl ?_
              rw [h14]
              refine r_icmp_ge 75 d_Mod_build_41 rfl (by omega) (by omega) (fun h41 => ?_) (fun h41 => absurd h41 (by omega))
              refine r_iinc 3 d_Mod_build_75 rfl (by decide) rfl ?_
              refine r_goto 24 d_Mod_build_78 rfl ?_
              exact r_drop 4 (ihs σ2 hQ2 (by rw [e1, e2]; exact hb2) hF2)
            · intro v v0 v1 ihv σ2 hQ2 hb2 hF2
              have h14 := (hF2.dr hC0).2.1
              have hat := (hF2.dr hC0).at (s := s) (by omega) (by omega)
              have hno := vanOf_no.mpr (fun q => hd (Or.inr q))
              have e3 := nS (fvN g.D Q s (fpN g.D g.nv Q (-1, 0, 0, 0, 0) s.toNat)) (fun b v => tp g.D Q s v b) (fun _ => rfl) v0
              have hgv := GB.fv k1 hP hA s0 s1 (fun q => hd (Or.inr q)) (fun q => hd (Or.inl q)) hgs v.toNat (by omega)
              refine r_iload 4 d_Mod_build_35 rfl ?_
              refine r_aload_n 0 d_Mod_build_37 rfl rfl ?_
              refine r_getI 14 d_Mod_build_38 fk_Mod_105 rfl rfl rfl ?_
              rw [h14]
              refine r_icmp_ge 75 d_Mod_build_41 rfl (by omega) (by omega) (fun h41 => absurd h41 (by omega)) (fun h41 => ?_)
              refine r_aload_n 0 d_Mod_build_44 rfl rfl ?_
              refine r_getR 171 d_Mod_build_45 fk_Mod_13 rfl rfl rfl (by decide) ?_
              refine r_iload_n 3 d_Mod_build_48 rfl rfl ?_
              refine r_iald 12 d_Mod_build_49 rfl rfl (by omega) (by omega) ?_
              rw [hat.1]
              refine r_iconst d_Mod_build_50 ?_
              refine r_icmp_eq 69 d_Mod_build_51 rfl (by omega) (by omega) (fun h51 => absurd h51 (fun q => hd (Or.inl q))) (fun h51 => ?_)
              refine r_aload_n 0 d_Mod_build_54 rfl rfl ?_
              refine r_iload_n 3 d_Mod_build_55 rfl rfl ?_
              refine r_cVP 8 d_Mod_build_56 lk_Mod_156 vc_Mod_vanOf (mt_vanOf (hF2.dr hC0) ⟨hn.2.2.1, hn.2.2.2⟩ hQ2 hP (by omega)) rfl rfl rfl rfl ⟨Nat.le_of_ble_eq_true rfl, Nat.le_of_ble_eq_true rfl⟩ ⟨Nat.zero_le _, Nat.zero_le _⟩ (Nat.le_of_ble_eq_true rfl) ?_
              refine r_if_ge 69 d_Mod_build_59 rfl (by omega) (fun h59 => absurd h59 (by omega)) (fun h59 => ?_)
              refine r_aload_n 0 d_Mod_build_62 rfl rfl ?_
              refine r_iload_n 3 d_Mod_build_63 rfl rfl ?_
              refine r_iload 4 d_Mod_build_64 rfl ?_
              refine r_cVV 8 d_Mod_build_66 lk_Mod_256 vc_Mod_triesAll (mt_triesAll (hF2.dr hC0) k1 hQ2 hP hA v0 v1 s0 s1 (fun q => hd (Or.inr q)) (fun q => hd (Or.inl q)) hb2 hgv) rfl rfl rfl rfl ⟨Nat.le_of_ble_eq_true rfl, Nat.le_of_ble_eq_true rfl⟩ ⟨Nat.zero_le _, Nat.zero_le _⟩ (Nat.le_of_ble_eq_true rfl) (fun s66 q66 => ?_)
              obtain ⟨d1, d2, d3⟩ := q66
              refine r_iinc 4 d_Mod_build_69 rfl (by decide) rfl ?_
              refine r_goto 35 d_Mod_build_72 rfl ?_
              exact ihv _ d1 (by rw [e3]; exact d2) (hF2.tr d3)
          refine r_iload_n 3 d_Mod_build_24 rfl rfl ?_
          refine r_aload_n 0 d_Mod_build_25 rfl rfl ?_
          refine r_getI 13 d_Mod_build_26 fk_Mod_102 rfl rfl rfl ?_
          rw [h13]
          refine r_icmp_ge 81 d_Mod_build_29 rfl (by omega) (by omega) (fun h29 => absurd h29 (by omega)) (fun h29 => ?_)
          refine r_iconst d_Mod_build_32 ?_
          refine r_istore 4 d_Mod_build_33 (by decide) rfl ?_
          exact LV 0 (by omega) (by omega) σ1 hQ1 hb1 hF1
    refine r_aload_n 0 d_Mod_build_17 rfl rfl ?_
    refine r_iconst d_Mod_build_18 ?_
    refine r_putI 35 d_Mod_build_19 fk_Mod_237 rfl rfl rfl (Or.inl rfl) ?_
    refine r_iconst d_Mod_build_22 ?_
    refine r_istore_n 3 d_Mod_build_23 rfl (by decide) rfl ?_
    exact LS 0 (by omega) (by omega) _ (hQ0.keep (fun c i q => wr_ne (by omega))) ⟨wr_eq, fun q => absurd rfl q⟩ (fun c i z1 z2 z3 z4 z5 z6 => wr_ne (by omega))
  have key : ∀ (n : Nat) (σ1 : sto) (Q : pln) (x : Int), g.ns - szP Q ≤ n → RE σ1 g → AP σ1 186 0 g.P → RA σ1 Q → PO g.ns g.nv Q → AF g.D g.nv Q → MF σ σ1 → bld g.D g.ns g.nv Q = bld g.D g.ns g.nv g.P → x = szP Q - szP g.P → Run M_Mod_build (rxI 14 (QM (sp_build g) σ)) (0, 0) 13 [vR 169, vI x, vI 1, vU, vU] [] (sg σ1) := by
    intro n
    induction n with
    | zero =>
      intro σ1 Q x hn1 hE1 hA1 hQ1 hP1 hF1 hM1 hb1 hx1
      refine r_iload_n 2 d_Mod_build_13 rfl rfl ?_
      refine r_if_eq 157 d_Mod_build_14 rfl (by omega) (fun h14 => absurd h14 (by omega)) (fun h14 => ?_)
      refine find Q x σ1 hE1 hQ1 hP1 hF1 (fun σ2 hQ2 hb2 hT2 => ?_)
      have hgf := GB.fp k1 hP1 hF1
      have hgl := hgf.lim hn.2.1
      have hE2 := hT2.re hE1
      have hA2 := hT2.ap (by omega) hA1
      have hM2 := hM1.tr hT2.mf
      refine r_aload_n 0 d_Mod_build_81 rfl rfl ?_
      refine r_getI 35 d_Mod_build_82 fk_Mod_237 rfl rfl rfl ?_
      rw [hb2.1]
      refine r_if_lt 92 d_Mod_build_85 rfl (by omega) (fun h85 => ?_) (fun h85 => ?_)
      · have hnone : (fp g.D g.ns g.nv Q).1 = -1 := by omega
        refine r_iconst d_Mod_build_92 ?_
        refine r_istore_n 2 d_Mod_build_93 rfl (by decide) rfl ?_
        refine r_iload_n 2 d_Mod_build_94 rfl rfl ?_
        refine r_if_ne 101 d_Mod_build_95 rfl (by omega) (fun h95 => ?_) (fun h95 => ?_)
        · first
            | (exfalso; omega)
            | exact absurd (fp_full k1 hP1 hF1 (by omega)) (by omega)
        · refine r_goto 13 d_Mod_build_98 rfl ?_
          first
            | (exfalso; omega)
            | exact r_drop 3 (r_drop 4 (kend σ2 x hE2 hA2 (by rw [← hb1, bld_none hnone]; exact hQ2) hM2 (by rw [← hb1, bld_none hnone]; exact hx1)))
      · refine r_iconst d_Mod_build_88 ?_
        refine r_goto 93 d_Mod_build_89 rfl ?_
        refine r_istore_n 2 d_Mod_build_93 rfl (by decide) rfl ?_
        refine r_iload_n 2 d_Mod_build_94 rfl rfl ?_
        refine r_if_ne 101 d_Mod_build_95 rfl (by omega) (fun h95 => ?_) (fun h95 => ?_)
        · first
            | (exfalso; omega)
            | exact absurd (fp_full k1 hP1 hF1 (by omega)) (by omega)
        · refine r_goto 13 d_Mod_build_98 rfl ?_
          first
            | (exfalso; omega)
            | exact r_drop 3 (r_drop 4 (kend σ2 x hE2 hA2 (by rw [← hb1, bld_none hnone]; exact hQ2) hM2 (by rw [← hb1, bld_none hnone]; exact hx1)))
    | succ n ihn =>
      intro σ1 Q x hn1 hE1 hA1 hQ1 hP1 hF1 hM1 hb1 hx1
      refine r_iload_n 2 d_Mod_build_13 rfl rfl ?_
      refine r_if_eq 157 d_Mod_build_14 rfl (by omega) (fun h14 => absurd h14 (by omega)) (fun h14 => ?_)
      refine find Q x σ1 hE1 hQ1 hP1 hF1 (fun σ2 hQ2 hb2 hT2 => ?_)
      have hgf := GB.fp k1 hP1 hF1
      have hgl := hgf.lim hn.2.1
      have hE2 := hT2.re hE1
      have hA2 := hT2.ap (by omega) hA1
      have hM2 := hM1.tr hT2.mf
      have k101 : (fp g.D g.ns g.nv Q).1 ≠ -1 → Run M_Mod_build (rxI 14 (QM (sp_build g) σ)) (0, 0) 101 [vR 169, vI x, vI 1, vU, vU] [] (sg σ2) := by
        intro hne
        have hb3 := hb2.2 hne
        obtain ⟨g1, g2, g3, g4, g5, g6⟩ := hgf.resolve_left hne
        have ebl : bld1 g.D g.ns g.nv Q = pbs g.D Q (fp g.D g.ns g.nv Q) := if_neg hne
        have hbo := bld1_ok k1 hP1 hF1
        have hbs := bld_step k1 hP1 hF1
        rw [ebl] at hbo hbs
        have hsz := pbs_ok k1 hP1 hF1 hgf hne
        have ro := row_ok k1 hP1 g3.1 g3.2 g4.1 g4.2 g1.1 g1.2 g2.2
        have hgro := hbo.2.2.2 hne
        refine r_aload_n 0 d_Mod_build_101 rfl rfl ?_
        refine r_aload_n 0 d_Mod_build_102 rfl rfl ?_
        refine r_getI 35 d_Mod_build_103 fk_Mod_237 rfl rfl rfl ?_
        rw [hb2.1]
        refine r_aload_n 0 d_Mod_build_106 rfl rfl ?_
        refine r_getI 36 d_Mod_build_107 fk_Mod_243 rfl rfl rfl ?_
        rw [hb3.2.1]
        refine r_aload_n 0 d_Mod_build_110 rfl rfl ?_
        refine r_getI 37 d_Mod_build_111 fk_Mod_246 rfl rfl rfl ?_
        rw [hb3.2.2.1]
        refine r_cVV 8 d_Mod_build_114 lk_Mod_224 vc_Mod_puts (mt_puts hQ2 g3.1 (by omega) g4.1 g4.2 ro.2.2.2 g1.1 (by omega)) rfl rfl rfl rfl ⟨Nat.le_of_ble_eq_true rfl, Nat.le_of_ble_eq_true rfl⟩ ⟨Nat.zero_le _, Nat.zero_le _⟩ (Nat.le_of_ble_eq_true rfl) (fun s114 q114 => ?_)
        obtain ⟨a1, a2⟩ := q114
        have hb5 := a2.gf hb2
        have hb4 := hb5.2 hne
        have hE3 := a2.re hE2
        have hA3 := a2.ap (by omega) hA2
        have hM3 := hM2.tr a2.mf
        have hm3 := (hE3.1.at (s := (fp g.D g.ns g.nv Q).1) (by omega) (by omega)).2.2.2.2.2.1
        refine r_iinc 1 d_Mod_build_117 rfl (by decide) rfl ?_
        refine r_aload_n 0 d_Mod_build_120 rfl rfl ?_
        refine r_getI 38 d_Mod_build_121 fk_Mod_249 rfl rfl rfl ?_
        rw [hb4.2.2.2]
        refine r_if_ge 130 d_Mod_build_124 rfl (by omega) (fun h124 => ?_) (fun h124 => ?_)
        · have g8 := g6.resolve_left (fun q => by omega)
          have hdm := pair_out k1 hP1 hF1 g1.1 g1.2 g2.2 g2.1 g8.1
          have rw2 := row2_ok k1 hP1 hF1 g3.1 g3.2 g4.1 g4.2 g8.2.1 g8.2.2.1 g1.1 g1.2 g2.2 g2.1 g8.1
          refine r_aload_n 0 d_Mod_build_130 rfl rfl ?_
          refine r_aload_n 0 d_Mod_build_131 rfl rfl ?_
          refine r_getR 177 d_Mod_build_132 fk_Mod_31 rfl rfl rfl (by decide) ?_
          refine r_aload_n 0 d_Mod_build_135 rfl rfl ?_
          refine r_getI 35 d_Mod_build_136 fk_Mod_237 rfl rfl rfl ?_
          rw [hb5.1]
          refine r_iald 12 d_Mod_build_139 rfl rfl (by omega) (by omega) ?_
          rw [hm3]
          refine r_aload_n 0 d_Mod_build_140 rfl rfl ?_
          refine r_getI 36 d_Mod_build_141 fk_Mod_243 rfl rfl rfl ?_
          rw [hb4.2.1]
          refine r_aload_n 0 d_Mod_build_144 rfl rfl ?_
          refine r_getI 38 d_Mod_build_145 fk_Mod_249 rfl rfl rfl ?_
          rw [hb4.2.2.2]
          refine r_cVV 8 d_Mod_build_148 lk_Mod_224 vc_Mod_puts (mt_puts a1 g3.1 (by omega) (by omega) (by rw [up_eq, ln_ins]; omega) (by rw [up_eq, ln_ins]; exact rw2.2.2.2) (by omega) (by omega)) rfl rfl rfl rfl ⟨Nat.le_of_ble_eq_true rfl, Nat.le_of_ble_eq_true rfl⟩ ⟨Nat.zero_le _, Nat.zero_le _⟩ (Nat.le_of_ble_eq_true rfl) (fun s148 q148 => ?_)
          obtain ⟨c1, c2⟩ := q148
          rw [up_up, up_eq] at c1
          have e7 : pbs g.D Q (fp g.D g.ns g.nv Q) = up Q (fp g.D g.ns g.nv Q).2.1 (row2 g.D Q (fp g.D g.ns g.nv Q).1 (fp g.D g.ns g.nv Q).2.1 (fp g.D g.ns g.nv Q).2.2.1 (fp g.D g.ns g.nv Q).2.2.2.1) := by unfold pbs; rw [if_neg g8.1]
          rw [if_neg g8.1] at hsz
          refine r_iinc 1 d_Mod_build_151 rfl (by decide) rfl ?_
          refine r_goto 13 d_Mod_build_154 rfl ?_
          first
            | exact ihn _ _ _ (by omega) (c2.re hE3) (c2.ap (by omega) hA3) (by rw [e7]; exact c1) hbo.1 hbo.2.1 (hM3.tr c2.mf) (hbs.trans hb1) (by omega)
            | exact ihn _ _ _ (by omega) hE3 hA3 (by rw [e7]; exact a1) hbo.1 hbo.2.1 hM3 (hbs.trans hb1) (by omega)
        · have g8 := g6.resolve_right (fun q => by omega)
          have e7 : pbs g.D Q (fp g.D g.ns g.nv Q) = up Q (fp g.D g.ns g.nv Q).2.1 (insA (Q (fp g.D g.ns g.nv Q).2.1) (fp g.D g.ns g.nv Q).2.2.1 (fp g.D g.ns g.nv Q).1) := by unfold pbs; rw [if_pos g8.1]
          rw [if_pos g8.1] at hsz
          refine r_goto 13 d_Mod_build_127 rfl ?_
          first
            | exact ihn _ _ _ (by omega) (c2.re hE3) (c2.ap (by omega) hA3) (by rw [e7]; exact c1) hbo.1 hbo.2.1 (hM3.tr c2.mf) (hbs.trans hb1) (by omega)
            | exact ihn _ _ _ (by omega) hE3 hA3 (by rw [e7]; exact a1) hbo.1 hbo.2.1 hM3 (hbs.trans hb1) (by omega)
      refine r_aload_n 0 d_Mod_build_81 rfl rfl ?_
      refine r_getI 35 d_Mod_build_82 fk_Mod_237 rfl rfl rfl ?_
      rw [hb2.1]
      refine r_if_lt 92 d_Mod_build_85 rfl (by omega) (fun h85 => ?_) (fun h85 => ?_)
      · have hnone : (fp g.D g.ns g.nv Q).1 = -1 := by omega
        refine r_iconst d_Mod_build_92 ?_
        refine r_istore_n 2 d_Mod_build_93 rfl (by decide) rfl ?_
        refine r_iload_n 2 d_Mod_build_94 rfl rfl ?_
        refine r_if_ne 101 d_Mod_build_95 rfl (by omega) (fun h95 => ?_) (fun h95 => ?_)
        · first
            | (exfalso; omega)
            | exact k101 (by omega)
        · refine r_goto 13 d_Mod_build_98 rfl ?_
          first
            | (exfalso; omega)
            | exact r_drop 3 (r_drop 4 (kend σ2 x hE2 hA2 (by rw [← hb1, bld_none hnone]; exact hQ2) hM2 (by rw [← hb1, bld_none hnone]; exact hx1)))
      · refine r_iconst d_Mod_build_88 ?_
        refine r_goto 93 d_Mod_build_89 rfl ?_
        refine r_istore_n 2 d_Mod_build_93 rfl (by decide) rfl ?_
        refine r_iload_n 2 d_Mod_build_94 rfl rfl ?_
        refine r_if_ne 101 d_Mod_build_95 rfl (by omega) (fun h95 => ?_) (fun h95 => ?_)
        · first
            | (exfalso; omega)
            | exact k101 (by omega)
        · refine r_goto 13 d_Mod_build_98 rfl ?_
          first
            | (exfalso; omega)
            | exact r_drop 3 (r_drop 4 (kend σ2 x hE2 hA2 (by rw [← hb1, bld_none hnone]; exact hQ2) hM2 (by rw [← hb1, bld_none hnone]; exact hx1)))
  refine ci_of [vR 169, vU, vU, vU, vU] fy_Mod_build.1 rfl (Nat.le_of_ble_eq_true rfl) ?_
  refine r_aload_n 0 d_Mod_build_0 rfl rfl ?_
  refine r_aload_n 0 d_Mod_build_1 rfl rfl ?_
  refine r_getR 186 d_Mod_build_2 fk_Mod_58 rfl rfl rfl (by decide) ?_
  refine r_iconst d_Mod_build_5 ?_
  refine r_cVV 8 d_Mod_build_6 lk_Mod_231 vc_Mod_keeps (mt_keeps (n := 39) rfl rfl (Int.le_refl _) (by omega) (by omega) (by omega)) rfl rfl rfl rfl ⟨Nat.le_of_ble_eq_true rfl, Nat.le_of_ble_eq_true rfl⟩ ⟨Nat.zero_le _, Nat.zero_le _⟩ (Nat.le_of_ble_eq_true rfl) (fun s6 q6 => ?_)
  obtain ⟨t1, t2, t3⟩ := q6
  have hA1 : AP s6 186 0 g.P := AP.of hQ t1 t2
  have hQ1 := hQ.keep (σ' := s6) (fun c i q => t3 c i (by omega))
  have hE1 := hE.keep (σ' := s6) (fun c i q => t3 c i (by omega))
  have hsz := k2.size hn.1
  refine r_iconst d_Mod_build_9 ?_
  refine r_istore_n 1 d_Mod_build_10 rfl (by decide) rfl ?_
  refine r_iconst d_Mod_build_11 ?_
  refine r_istore_n 2 d_Mod_build_12 rfl (by decide) rfl ?_
  exact key (g.ns - szP g.P).toNat _ g.P 0 (by omega) hE1 hA1 hQ1 k2 k3 (fun c i q => t3 c i (by omega)) rfl (by omega)
