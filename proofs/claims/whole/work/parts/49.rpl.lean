-- THE REFERENCE: its plans are kept, taken, changed (walks written by wip/whole/gen_rpl.py)
theorem dn_ind {G : Int → Prop} {a b : Int} (hb : G a) (hs : ∀ i, a < i → i ≤ b → G (i + (-1)) → G i) : ∀ i, a ≤ i → i ≤ b → G i := by
  intro i h0 h1
  have := up_ind (G := fun j => G (a + b - j)) (a := a) (b := b) (by show G (a + b - b); rw [show a + b - b = a by omega]; exact hb) (fun j j0 j1 h => hs (a + b - j) (by omega) (by omega) (by rw [show a + b - j + (-1) = a + b - (j + 1) by omega]; exact h)) (a + b - i) (by omega) (by omega)
  rw [show i = a + b - (a + b - i) by omega]
  exact this
/-- a plan in an array of 39 numbers from o on -/
def AP (σ : sto) (c o : Int) (P : pln) : Prop := ∀ v : Int, 0 ≤ v → v < 3 → σ c (o + 36 + v) = ln (P v) ∧ ln (P v) ≤ 12 ∧ ∀ i : Int, 0 ≤ i → i < ln (P v) → σ c (o + 12 * v + i) = gt (P v) i ∧ 0 ≤ gt (P v) i ∧ gt (P v) i < 12
theorem AP.keep {σ σ' : sto} {c o : Int} {P : pln} (h : AP σ c o P) (hF : ∀ k, o ≤ k → k < o + 39 → σ' c k = σ c k) : AP σ' c o P := fun v v0 v1 => by
  obtain ⟨a, b, d⟩ := h v v0 v1
  exact ⟨by rw [hF _ (by omega) (by omega)]; exact a, b, fun i i0 i1 => by rw [hF _ (by omega) (by omega)]; exact d i i0 i1⟩
theorem AP.of {σ σ' : sto} {c o : Int} {P : pln} (h : RA σ P) (h1 : ∀ k, 0 ≤ k → k < 36 → σ' c (o + k) = σ 183 k) (h2 : ∀ k, 0 ≤ k → k < 3 → σ' c (o + 36 + k) = σ 184 k) : AP σ' c o P := fun v v0 v1 => by
  obtain ⟨a, b, d⟩ := h v v0 v1
  exact ⟨by rw [h2 v v0 v1]; exact a, b, fun i i0 i1 => by rw [show o + 12 * v + i = o + (12 * v + i) by omega, h1 _ (by omega) (by omega)]; exact d i i0 i1⟩
theorem AP.to {σ σ' : sto} {c o : Int} {P : pln} (h : AP σ c o P) (h1 : ∀ k, 0 ≤ k → k < 36 → σ' 183 k = σ c (o + k)) (h2 : ∀ k, 0 ≤ k → k < 3 → σ' 184 k = σ c (o + 36 + k)) : RA σ' P := fun v v0 v1 => by
  obtain ⟨a, b, d⟩ := h v v0 v1
  exact ⟨by rw [h2 v v0 v1]; exact a, b, fun i i0 i1 => by rw [h1 _ (by omega) (by omega), show o + (12 * v + i) = o + 12 * v + i by omega]; exact d i i0 i1⟩
theorem mt_keeps {σ : sto} {c o n : Int} (hk : KD c = 9) (ha : AL c = n) (o0 : 0 ≤ o) (hn : o + 39 ≤ n) (h183 : c ≠ 183) (h184 : c ≠ 184) : CV M_Mod_keeps 0 [vR 169, vR c, vI o] σ (fun σ' => (∀ k, 0 ≤ k → k < 36 → σ' c (o + k) = σ 183 k) ∧ (∀ k, 0 ≤ k → k < 3 → σ' c (o + 36 + k) = σ 184 k) ∧ ∀ d i : Int, d ≠ c → σ' d i = σ d i) := by
  have L2 : ∀ k, 0 ≤ k → k ≤ 3 → ∀ σ1 : sto, (∀ j, 0 ≤ j → j < 36 → σ1 c (o + j) = σ 183 j) → (∀ j, 0 ≤ j → j < k → σ1 c (o + 36 + j) = σ 184 j) → (∀ d i : Int, d ≠ c → σ1 d i = σ d i) → Run M_Mod_keeps (rxV 0 (fun σ' => (∀ k, 0 ≤ k → k < 36 → σ' c (o + k) = σ 183 k) ∧ (∀ k, 0 ≤ k → k < 3 → σ' c (o + 36 + k) = σ 184 k) ∧ ∀ d i : Int, d ≠ c → σ' d i = σ d i)) (0, 0) 27 [vR 169, vR c, vI o, vI k] [] (sg σ1) := by
    refine up_ind (b := 3) ?_ ?_
    · intro σ1 g1 g2 g3
      refine r_iload_n 3 d_Mod_keeps_27 rfl rfl ?_
      refine r_iconst d_Mod_keeps_28 ?_
      refine r_icmp_ge 52 d_Mod_keeps_29 rfl (by omega) (by omega) (fun h29 => ?_) (fun h29 => absurd h29 (by omega))
      refine q_vret d_Mod_keeps_52 rfl ?_
      exact ⟨g1, g2, g3⟩
    · intro k k0 k1 ih σ1 g1 g2 g3
      refine r_iload_n 3 d_Mod_keeps_27 rfl rfl ?_
      refine r_iconst d_Mod_keeps_28 ?_
      refine r_icmp_ge 52 d_Mod_keeps_29 rfl (by omega) (by omega) (fun h29 => absurd h29 (by omega)) (fun h29 => ?_)
      refine r_aload_n 1 d_Mod_keeps_32 rfl rfl ?_
      refine r_iload_n 2 d_Mod_keeps_33 rfl rfl ?_
      refine r_bipush d_Mod_keeps_34 (by decide) ?_
      refine r_iadd d_Mod_keeps_36 ?_
      refine r_iload_n 3 d_Mod_keeps_37 rfl rfl ?_
      refine r_iadd d_Mod_keeps_38 ?_
      refine r_aload_n 0 d_Mod_keeps_39 rfl rfl ?_
      refine r_getR 184 d_Mod_keeps_40 fk_Mod_52 rfl rfl rfl (by decide) ?_
      refine r_iload_n 3 d_Mod_keeps_43 rfl rfl ?_
      refine r_iald 3 d_Mod_keeps_44 rfl rfl (by omega) (by omega) ?_
      refine r_iast n d_Mod_keeps_45 hk ha (by omega) (by omega) ?_
      refine r_iinc 3 d_Mod_keeps_46 rfl (by decide) rfl ?_
      refine r_goto 27 d_Mod_keeps_49 rfl ?_
      refine ih _ (fun j j0 j1 => ?_) (fun j j0 j1 => ?_) (fun d i q => by rw [wr_ne (Or.inl q)]; exact g3 d i q)
      · rw [wr_ne (by omega)]; exact g1 j j0 j1
      · by_cases e : j = k
        · rw [e, wr_eq]; exact g3 184 k (Ne.symm h184)
        · rw [wr_ne (by omega)]; exact g2 j j0 (by omega)
  have L1 : ∀ k, 0 ≤ k → k ≤ 36 → ∀ σ1 : sto, (∀ j, 0 ≤ j → j < k → σ1 c (o + j) = σ 183 j) → (∀ d i : Int, d ≠ c → σ1 d i = σ d i) → Run M_Mod_keeps (rxV 0 (fun σ' => (∀ k, 0 ≤ k → k < 36 → σ' c (o + k) = σ 183 k) ∧ (∀ k, 0 ≤ k → k < 3 → σ' c (o + 36 + k) = σ 184 k) ∧ ∀ d i : Int, d ≠ c → σ' d i = σ d i)) (0, 0) 2 [vR 169, vR c, vI o, vI k] [] (sg σ1) := by
    refine up_ind (b := 36) ?_ ?_
    · intro σ1 g1 g3
      refine r_iload_n 3 d_Mod_keeps_2 rfl rfl ?_
      refine r_bipush d_Mod_keeps_3 (by decide) ?_
      refine r_icmp_ge 25 d_Mod_keeps_5 rfl (by omega) (by omega) (fun h5 => ?_) (fun h5 => absurd h5 (by omega))
      refine r_iconst d_Mod_keeps_25 ?_
      refine r_istore_n 3 d_Mod_keeps_26 rfl (by decide) rfl ?_
      exact L2 0 (by omega) (by omega) σ1 g1 (fun j j0 j1 => by omega) g3
    · intro k k0 k1 ih σ1 g1 g3
      refine r_iload_n 3 d_Mod_keeps_2 rfl rfl ?_
      refine r_bipush d_Mod_keeps_3 (by decide) ?_
      refine r_icmp_ge 25 d_Mod_keeps_5 rfl (by omega) (by omega) (fun h5 => absurd h5 (by omega)) (fun h5 => ?_)
      refine r_aload_n 1 d_Mod_keeps_8 rfl rfl ?_
      refine r_iload_n 2 d_Mod_keeps_9 rfl rfl ?_
      refine r_iload_n 3 d_Mod_keeps_10 rfl rfl ?_
      refine r_iadd d_Mod_keeps_11 ?_
      refine r_aload_n 0 d_Mod_keeps_12 rfl rfl ?_
      refine r_getR 183 d_Mod_keeps_13 fk_Mod_49 rfl rfl rfl (by decide) ?_
      refine r_iload_n 3 d_Mod_keeps_16 rfl rfl ?_
      refine r_iald 36 d_Mod_keeps_17 rfl rfl (by omega) (by omega) ?_
      refine r_iast n d_Mod_keeps_18 hk ha (by omega) (by omega) ?_
      refine r_iinc 3 d_Mod_keeps_19 rfl (by decide) rfl ?_
      refine r_goto 2 d_Mod_keeps_22 rfl ?_
      refine ih _ (fun j j0 j1 => ?_) (fun d i q => by rw [wr_ne (Or.inl q)]; exact g3 d i q)
      by_cases e : j = k
      · rw [e, wr_eq]; exact g3 183 k (Ne.symm h183)
      · rw [wr_ne (by omega)]; exact g1 j j0 (by omega)
  refine cv_of [vR 169, vR c, vI o, vU] fy_Mod_keeps.1 rfl (Nat.le_of_ble_eq_true rfl) ?_
  refine r_iconst d_Mod_keeps_0 ?_
  refine r_istore_n 3 d_Mod_keeps_1 rfl (by decide) rfl ?_
  exact L1 0 (by omega) (by omega) σ (fun j j0 j1 => by omega) (fun _ _ _ => rfl)
theorem mt_takes {σ : sto} {c o n : Int} (hk : KD c = 9) (ha : AL c = n) (o0 : 0 ≤ o) (hn : o + 39 ≤ n) (h183 : c ≠ 183) (h184 : c ≠ 184) : CV M_Mod_takes 0 [vR 169, vR c, vI o] σ (fun σ' => (∀ k, 0 ≤ k → k < 36 → σ' 183 k = σ c (o + k)) ∧ (∀ k, 0 ≤ k → k < 3 → σ' 184 k = σ c (o + 36 + k)) ∧ ∀ d i : Int, d ≠ 183 → d ≠ 184 → σ' d i = σ d i) := by
  have L2 : ∀ k, 0 ≤ k → k ≤ 3 → ∀ σ1 : sto, (∀ j, 0 ≤ j → j < 36 → σ1 183 j = σ c (o + j)) → (∀ j, 0 ≤ j → j < k → σ1 184 j = σ c (o + 36 + j)) → (∀ d i : Int, d ≠ 183 → d ≠ 184 → σ1 d i = σ d i) → Run M_Mod_takes (rxV 0 (fun σ' => (∀ k, 0 ≤ k → k < 36 → σ' 183 k = σ c (o + k)) ∧ (∀ k, 0 ≤ k → k < 3 → σ' 184 k = σ c (o + 36 + k)) ∧ ∀ d i : Int, d ≠ 183 → d ≠ 184 → σ' d i = σ d i)) (0, 0) 27 [vR 169, vR c, vI o, vI k] [] (sg σ1) := by
    refine up_ind (b := 3) ?_ ?_
    · intro σ1 g1 g2 g3
      refine r_iload_n 3 d_Mod_takes_27 rfl rfl ?_
      refine r_iconst d_Mod_takes_28 ?_
      refine r_icmp_ge 52 d_Mod_takes_29 rfl (by omega) (by omega) (fun h29 => ?_) (fun h29 => absurd h29 (by omega))
      refine q_vret d_Mod_takes_52 rfl ?_
      exact ⟨g1, g2, g3⟩
    · intro k k0 k1 ih σ1 g1 g2 g3
      refine r_iload_n 3 d_Mod_takes_27 rfl rfl ?_
      refine r_iconst d_Mod_takes_28 ?_
      refine r_icmp_ge 52 d_Mod_takes_29 rfl (by omega) (by omega) (fun h29 => absurd h29 (by omega)) (fun h29 => ?_)
      refine r_aload_n 0 d_Mod_takes_32 rfl rfl ?_
      refine r_getR 184 d_Mod_takes_33 fk_Mod_52 rfl rfl rfl (by decide) ?_
      refine r_iload_n 3 d_Mod_takes_36 rfl rfl ?_
      refine r_aload_n 1 d_Mod_takes_37 rfl rfl ?_
      refine r_iload_n 2 d_Mod_takes_38 rfl rfl ?_
      refine r_bipush d_Mod_takes_39 (by decide) ?_
      refine r_iadd d_Mod_takes_41 ?_
      refine r_iload_n 3 d_Mod_takes_42 rfl rfl ?_
      refine r_iadd d_Mod_takes_43 ?_
      refine r_iald n d_Mod_takes_44 hk ha (by omega) (by omega) ?_
      refine r_iast 3 d_Mod_takes_45 rfl rfl (by omega) (by omega) ?_
      refine r_iinc 3 d_Mod_takes_46 rfl (by decide) rfl ?_
      refine r_goto 27 d_Mod_takes_49 rfl ?_
      refine ih _ (fun j j0 j1 => ?_) (fun j j0 j1 => ?_) (fun d i q q2 => by rw [wr_ne (Or.inl q2)]; exact g3 d i q q2)
      · rw [wr_ne (by omega)]; exact g1 j j0 j1
      · by_cases e : j = k
        · rw [e, wr_eq]; exact g3 c _ h183 h184
        · rw [wr_ne (by omega)]; exact g2 j j0 (by omega)
  have L1 : ∀ k, 0 ≤ k → k ≤ 36 → ∀ σ1 : sto, (∀ j, 0 ≤ j → j < k → σ1 183 j = σ c (o + j)) → (∀ d i : Int, d ≠ 183 → d ≠ 184 → σ1 d i = σ d i) → Run M_Mod_takes (rxV 0 (fun σ' => (∀ k, 0 ≤ k → k < 36 → σ' 183 k = σ c (o + k)) ∧ (∀ k, 0 ≤ k → k < 3 → σ' 184 k = σ c (o + 36 + k)) ∧ ∀ d i : Int, d ≠ 183 → d ≠ 184 → σ' d i = σ d i)) (0, 0) 2 [vR 169, vR c, vI o, vI k] [] (sg σ1) := by
    refine up_ind (b := 36) ?_ ?_
    · intro σ1 g1 g3
      refine r_iload_n 3 d_Mod_takes_2 rfl rfl ?_
      refine r_bipush d_Mod_takes_3 (by decide) ?_
      refine r_icmp_ge 25 d_Mod_takes_5 rfl (by omega) (by omega) (fun h5 => ?_) (fun h5 => absurd h5 (by omega))
      refine r_iconst d_Mod_takes_25 ?_
      refine r_istore_n 3 d_Mod_takes_26 rfl (by decide) rfl ?_
      exact L2 0 (by omega) (by omega) σ1 g1 (fun j j0 j1 => by omega) g3
    · intro k k0 k1 ih σ1 g1 g3
      refine r_iload_n 3 d_Mod_takes_2 rfl rfl ?_
      refine r_bipush d_Mod_takes_3 (by decide) ?_
      refine r_icmp_ge 25 d_Mod_takes_5 rfl (by omega) (by omega) (fun h5 => absurd h5 (by omega)) (fun h5 => ?_)
      refine r_aload_n 0 d_Mod_takes_8 rfl rfl ?_
      refine r_getR 183 d_Mod_takes_9 fk_Mod_49 rfl rfl rfl (by decide) ?_
      refine r_iload_n 3 d_Mod_takes_12 rfl rfl ?_
      refine r_aload_n 1 d_Mod_takes_13 rfl rfl ?_
      refine r_iload_n 2 d_Mod_takes_14 rfl rfl ?_
      refine r_iload_n 3 d_Mod_takes_15 rfl rfl ?_
      refine r_iadd d_Mod_takes_16 ?_
      refine r_iald n d_Mod_takes_17 hk ha (by omega) (by omega) ?_
      refine r_iast 36 d_Mod_takes_18 rfl rfl (by omega) (by omega) ?_
      refine r_iinc 3 d_Mod_takes_19 rfl (by decide) rfl ?_
      refine r_goto 2 d_Mod_takes_22 rfl ?_
      refine ih _ (fun j j0 j1 => ?_) (fun d i q q2 => by rw [wr_ne (Or.inl q)]; exact g3 d i q q2)
      by_cases e : j = k
      · rw [e, wr_eq]; exact g3 c _ h183 h184
      · rw [wr_ne (by omega)]; exact g1 j j0 (by omega)
  refine cv_of [vR 169, vR c, vI o, vU] fy_Mod_takes.1 rfl (Nat.le_of_ble_eq_true rfl) ?_
  refine r_iconst d_Mod_takes_0 ?_
  refine r_istore_n 3 d_Mod_takes_1 rfl (by decide) rfl ?_
  exact L1 0 (by omega) (by omega) σ (fun j j0 j1 => by omega) (fun _ _ _ _ => rfl)
/-- one row of the reference's plan is another -/
theorem RA.up {σ σ' : sto} {v : Int} {P : pln} {l : List Int} (h : RA σ P) (v0 : 0 ≤ v) (v1 : v < 3) (hF : ∀ k, k < 12 * v ∨ 12 * v + 12 ≤ k → σ' 183 k = σ 183 k) (hS : ∀ k, k ≠ v → σ' 184 k = σ 184 k) (hs : σ' 184 v = ln l) (hl : ln l ≤ 12) (he : ∀ i, 0 ≤ i → i < ln l → σ' 183 (12 * v + i) = gt l i ∧ 0 ≤ gt l i ∧ gt l i < 12) : RA σ' (up P v l) := fun u u0 u1 => by
  by_cases e : u = v
  · rw [e, up_eq]; exact ⟨hs, hl, he⟩
  · rw [up_ne e]
    obtain ⟨a, b, d⟩ := h u u0 u1
    exact ⟨by rw [hS u e]; exact a, b, fun i i0 i1 => by rw [hF _ (by omega)]; exact d i i0 i1⟩
def PRF (σ σ' : sto) : Prop := ∀ c i : Int, c ≠ 183 → c ≠ 184 → σ' c i = σ c i
theorem PRF.tr {σ σ' σ'' : sto} (h : PRF σ σ') (g : PRF σ' σ'') : PRF σ σ'' := fun c i a b => (g c i a b).trans (h c i a b)
theorem PRF.dr {σ σ' D : sto} {ns nv : Int} (h : PRF σ σ') (hC : DR σ D ns nv) : DR σ' D ns nv := hC.keep (fun c i q => h c i (by omega) (by omega))
theorem mt_puts {σ : sto} {v i s : Int} {P : pln} (hQ : RA σ P) (v0 : 0 ≤ v) (v1 : v < 3) (i0 : 0 ≤ i) (i1 : i ≤ ln (P v)) (hl : ln (P v) < 12) (s0 : 0 ≤ s) (s1 : s < 12) : CV M_Mod_puts 0 [vR 169, vI s, vI v, vI i] σ (fun σ' => RA σ' (up P v (insA (P v) i s)) ∧ PRF σ σ') := by
  have hz := hQ.len v0 v1
  have L : ∀ k, i ≤ k → k ≤ ln (P v) → ∀ σ1 : sto, (∀ j, σ1 183 (12 * v + j) = if k < j ∧ j ≤ ln (P v) then σ 183 (12 * v + (j - 1)) else σ 183 (12 * v + j)) → (∀ d j : Int, d ≠ 183 → σ1 d j = σ d j) → Run M_Mod_puts (rxV 0 (fun σ' => RA σ' (up P v (insA (P v) i s)) ∧ PRF σ σ')) (0, 0) 8 [vR 169, vI s, vI v, vI i, vI k] [] (sg σ1) := by
    refine dn_ind ?_ ?_
    · intro σ1 g1 g2
      have hz1 : σ1 184 v = ln (P v) := by rw [g2 184 v (by omega)]; exact hz.1
      have hz2 : wr σ1 183 (12 * v + i) s 184 v = ln (P v) := by rw [wr_ne (by omega)]; exact hz1
      refine r_iload 4 d_Mod_puts_8 rfl ?_
      refine r_iload_n 3 d_Mod_puts_10 rfl rfl ?_
      refine r_icmp_le 46 d_Mod_puts_11 rfl (by omega) (by omega) (fun h11 => ?_) (fun h11 => absurd h11 (by omega))
      refine r_aload_n 0 d_Mod_puts_46 rfl rfl ?_
      refine r_getR 183 d_Mod_puts_47 fk_Mod_49 rfl rfl rfl (by decide) ?_
      refine r_bipush d_Mod_puts_50 (by decide) ?_
      refine r_iload_n 2 d_Mod_puts_52 rfl rfl ?_
      refine r_imul d_Mod_puts_53 ?_
      refine r_iload_n 3 d_Mod_puts_54 rfl rfl ?_
      refine r_iadd d_Mod_puts_55 ?_
      refine r_iload_n 1 d_Mod_puts_56 rfl rfl ?_
      refine r_iast 36 d_Mod_puts_57 rfl rfl (by omega) (by omega) ?_
      refine r_aload_n 0 d_Mod_puts_58 rfl rfl ?_
      refine r_getR 184 d_Mod_puts_59 fk_Mod_52 rfl rfl rfl (by decide) ?_
      refine r_iload_n 2 d_Mod_puts_62 rfl rfl ?_
      refine r_dup2 d_Mod_puts_63 rfl rfl ?_
      refine r_iald 3 d_Mod_puts_64 rfl rfl (by omega) (by omega) ?_
      rw [hz2]
      refine r_iconst d_Mod_puts_65 ?_
      refine r_iadd d_Mod_puts_66 ?_
      refine r_iast 3 d_Mod_puts_67 rfl rfl (by omega) (by omega) ?_
      refine q_vret d_Mod_puts_68 rfl ?_
      refine ⟨hQ.up v0 v1 (fun k q => ?_) (fun k q => by rw [wr_ne (by omega), wr_ne (by omega)]; exact g2 184 k (by omega)) (by rw [wr_eq, ln_ins]) (by rw [ln_ins]; omega) (fun j j0 j1 => ?_), fun c k q1 q2 => by rw [wr_ne (by omega), wr_ne (by omega)]; exact g2 c k q1⟩
      · rw [wr_ne (by omega), wr_ne (by omega)]
        have := g1 (k - 12 * v)
        rw [show 12 * v + (k - 12 * v) = k by omega, if_neg (by omega)] at this
        exact this
      · rw [ln_ins] at j1
        rw [gt_ins j0 j1, wr_ne (by omega)]
        by_cases e : j = i
        · rw [e, wr_eq, if_neg (by omega), if_pos rfl]; exact ⟨rfl, s0, s1⟩
        · rw [wr_ne (by omega), g1 j]
          by_cases e2 : j < i
          · rw [if_neg (by omega), if_pos e2]; exact hQ.el v0 v1 j0 (by omega)
          · rw [if_pos (by omega), if_neg e2, if_neg e]; exact hQ.el v0 v1 (by omega) (by omega)
    · intro k k0 k1 ih σ1 g1 g2
      refine r_iload 4 d_Mod_puts_8 rfl ?_
      refine r_iload_n 3 d_Mod_puts_10 rfl rfl ?_
      refine r_icmp_le 46 d_Mod_puts_11 rfl (by omega) (by omega) (fun h11 => absurd h11 (by omega)) (fun h11 => ?_)
      refine r_aload_n 0 d_Mod_puts_14 rfl rfl ?_
      refine r_getR 183 d_Mod_puts_15 fk_Mod_49 rfl rfl rfl (by decide) ?_
      refine r_bipush d_Mod_puts_18 (by decide) ?_
      refine r_iload_n 2 d_Mod_puts_20 rfl rfl ?_
      refine r_imul d_Mod_puts_21 ?_
      refine r_iload 4 d_Mod_puts_22 rfl ?_
      refine r_iadd d_Mod_puts_24 ?_
      refine r_aload_n 0 d_Mod_puts_25 rfl rfl ?_
      refine r_getR 183 d_Mod_puts_26 fk_Mod_49 rfl rfl rfl (by decide) ?_
      refine r_bipush d_Mod_puts_29 (by decide) ?_
      refine r_iload_n 2 d_Mod_puts_31 rfl rfl ?_
      refine r_imul d_Mod_puts_32 ?_
      refine r_iload 4 d_Mod_puts_33 rfl ?_
      refine r_iadd d_Mod_puts_35 ?_
      refine r_iconst d_Mod_puts_36 ?_
      refine r_isub d_Mod_puts_37 ?_
      refine r_iald 36 d_Mod_puts_38 rfl rfl (by omega) (by omega) ?_
      refine r_iast 36 d_Mod_puts_39 rfl rfl (by omega) (by omega) ?_
      refine r_iinc 4 d_Mod_puts_40 rfl (by decide) rfl ?_
      refine r_goto 8 d_Mod_puts_43 rfl ?_
      refine ih _ (fun j => ?_) (fun d j q => by rw [wr_ne (Or.inl q)]; exact g2 d j q)
      by_cases e : j = k
      · rw [e, wr_eq, if_pos (by omega), show 12 * v + k - 1 = 12 * v + (k - 1) by omega, g1 (k - 1), if_neg (by omega)]
      · rw [wr_ne (by omega), g1 j]
        by_cases e2 : k < j ∧ j ≤ ln (P v)
        · rw [if_pos e2, if_pos (by omega)]
        · rw [if_neg e2, if_neg (by omega)]
  refine cv_of [vR 169, vI s, vI v, vI i, vU] fy_Mod_puts.1 rfl (Nat.le_of_ble_eq_true rfl) ?_
  refine r_aload_n 0 d_Mod_puts_0 rfl rfl ?_
  refine r_getR 184 d_Mod_puts_1 fk_Mod_52 rfl rfl rfl (by decide) ?_
  refine r_iload_n 2 d_Mod_puts_4 rfl rfl ?_
  refine r_iald 3 d_Mod_puts_5 rfl rfl (by omega) (by omega) ?_
  rw [hz.1]
  refine r_istore 4 d_Mod_puts_6 (by decide) rfl ?_
  exact L _ i1 (Int.le_refl _) σ (fun j => by rw [if_neg (by omega)]) (fun _ _ _ => rfl)
theorem mt_takesOut {σ D : sto} {ns nv s : Int} {P : pln} (hC : DR σ D ns nv) (hn : 0 ≤ nv ∧ nv ≤ 3) (hQ : RA σ P) (hP : PO ns nv P) (hs : inR s) (hin : s ∈ al3 P) : CV M_Mod_takesOut 2 [vR 169, vI s] σ (fun σ' => RA σ' (rmv1 P s) ∧ PRF σ σ') := by
  obtain ⟨y1, y2, y3, y4, y5, y6, y7, y8⟩ := vanOf_yes hP hin
  have hz := hQ.len y1 y2
  have e1 := rmv1_eq (P := P) (s := s) rfl (by omega)
  rw [e1]
  have L : ∀ k, plcOf P s ≤ k → k ≤ ln (P (vanOf P s)) - 1 → ∀ σ1 : sto, (∀ j, σ1 183 (12 * vanOf P s + j) = if plcOf P s ≤ j ∧ j < k then σ 183 (12 * vanOf P s + (j + 1)) else σ 183 (12 * vanOf P s + j)) → σ1 184 (vanOf P s) = ln (P (vanOf P s)) - 1 → (∀ d j : Int, d ≠ 183 → (d ≠ 184 ∨ j ≠ vanOf P s) → σ1 d j = σ d j) → Run M_Mod_takesOut (rxV 2 (fun σ' => RA σ' (up P (vanOf P s) (delA (P (vanOf P s)) (plcOf P s))) ∧ PRF σ σ')) (0, 0) 25 [vR 169, vI s, vI (vanOf P s), vI (plcOf P s), vI k] [] (sg σ1) := by
    refine up_ind (b := ln (P (vanOf P s)) - 1) ?_ ?_
    · intro σ1 g1 g2 g3
      refine r_iload 4 d_Mod_takesOut_25 rfl ?_
      refine r_aload_n 0 d_Mod_takesOut_27 rfl rfl ?_
      refine r_getR 184 d_Mod_takesOut_28 fk_Mod_52 rfl rfl rfl (by decide) ?_
      refine r_iload_n 2 d_Mod_takesOut_31 rfl rfl ?_
      refine r_iald 3 d_Mod_takesOut_32 rfl rfl (by omega) (by omega) ?_
      rw [g2]
      refine r_icmp_ge 68 d_Mod_takesOut_33 rfl (by omega) (by omega) (fun h33 => ?_) (fun h33 => absurd h33 (by omega))
      refine q_vret d_Mod_takesOut_68 rfl ?_
      refine ⟨hQ.up y1 y2 (fun k q => ?_) (fun k q => g3 184 k (by omega) (Or.inr q)) (by rw [g2, ln_del (by omega)]) (by rw [ln_del (by omega)]; omega) (fun j j0 j1 => ?_), fun c k q1 q2 => g3 c k q1 (Or.inl q2)⟩
      · have := g1 (k - 12 * vanOf P s)
        rw [show 12 * vanOf P s + (k - 12 * vanOf P s) = k by omega, if_neg (by omega)] at this
        exact this
      · rw [ln_del (by omega)] at j1
        rw [gt_del j0 j1, g1 j]
        by_cases e : j < plcOf P s
        · rw [if_neg (by omega), if_pos e]; exact hQ.el y1 y2 j0 (by omega)
        · rw [if_pos (by omega), if_neg e]; exact hQ.el y1 y2 (by omega) (by omega)
    · intro k k0 k1 ih σ1 g1 g2 g3
      refine r_iload 4 d_Mod_takesOut_25 rfl ?_
      refine r_aload_n 0 d_Mod_takesOut_27 rfl rfl ?_
      refine r_getR 184 d_Mod_takesOut_28 fk_Mod_52 rfl rfl rfl (by decide) ?_
      refine r_iload_n 2 d_Mod_takesOut_31 rfl rfl ?_
      refine r_iald 3 d_Mod_takesOut_32 rfl rfl (by omega) (by omega) ?_
      rw [g2]
      refine r_icmp_ge 68 d_Mod_takesOut_33 rfl (by omega) (by omega) (fun h33 => absurd h33 (by omega)) (fun h33 => ?_)
      refine r_aload_n 0 d_Mod_takesOut_36 rfl rfl ?_
      refine r_getR 183 d_Mod_takesOut_37 fk_Mod_49 rfl rfl rfl (by decide) ?_
      refine r_bipush d_Mod_takesOut_40 (by decide) ?_
      refine r_iload_n 2 d_Mod_takesOut_42 rfl rfl ?_
      refine r_imul d_Mod_takesOut_43 ?_
      refine r_iload 4 d_Mod_takesOut_44 rfl ?_
      refine r_iadd d_Mod_takesOut_46 ?_
      refine r_aload_n 0 d_Mod_takesOut_47 rfl rfl ?_
      refine r_getR 183 d_Mod_takesOut_48 fk_Mod_49 rfl rfl rfl (by decide) ?_
      refine r_bipush d_Mod_takesOut_51 (by decide) ?_
      refine r_iload_n 2 d_Mod_takesOut_53 rfl rfl ?_
      refine r_imul d_Mod_takesOut_54 ?_
      refine r_iload 4 d_Mod_takesOut_55 rfl ?_
      refine r_iadd d_Mod_takesOut_57 ?_
      refine r_iconst d_Mod_takesOut_58 ?_
      refine r_iadd d_Mod_takesOut_59 ?_
      refine r_iald 36 d_Mod_takesOut_60 rfl rfl (by omega) (by omega) ?_
      refine r_iast 36 d_Mod_takesOut_61 rfl rfl (by omega) (by omega) ?_
      refine r_iinc 4 d_Mod_takesOut_62 rfl (by decide) rfl ?_
      refine r_goto 25 d_Mod_takesOut_65 rfl ?_
      refine ih _ (fun j => ?_) (by rw [wr_ne (by omega)]; exact g2) (fun d j q q2 => by rw [wr_ne (Or.inl q)]; exact g3 d j q q2)
      by_cases e : j = k
      · rw [e, wr_eq, if_pos (by omega), show 12 * vanOf P s + k + 1 = 12 * vanOf P s + (k + 1) by omega, g1 (k + 1), if_neg (by omega)]
      · rw [wr_ne (by omega), g1 j]
        by_cases e2 : plcOf P s ≤ j ∧ j < k
        · rw [if_pos e2, if_pos (by omega)]
        · rw [if_neg e2, if_neg (by omega)]
  refine cv_of [vR 169, vI s, vU, vU, vU] fy_Mod_takesOut.1 rfl (Nat.le_of_ble_eq_true rfl) ?_
  refine r_aload_n 0 d_Mod_takesOut_0 rfl rfl ?_
  refine r_iload_n 1 d_Mod_takesOut_1 rfl rfl ?_
  refine r_cVP 8 d_Mod_takesOut_2 lk_Mod_156 vc_Mod_vanOf (mt_vanOf hC hn hQ hP hs) rfl rfl rfl rfl ⟨Nat.le_of_ble_eq_true rfl, Nat.le_of_ble_eq_true rfl⟩ ⟨Nat.zero_le _, Nat.zero_le _⟩ (Nat.le_of_ble_eq_true rfl) ?_
  refine r_istore_n 2 d_Mod_takesOut_5 rfl (by decide) rfl ?_
  refine r_aload_n 0 d_Mod_takesOut_6 rfl rfl ?_
  refine r_iload_n 1 d_Mod_takesOut_7 rfl rfl ?_
  refine r_cVP 8 d_Mod_takesOut_8 lk_Mod_168 vc_Mod_placeOf (mt_placeOf hC hn hQ hP hs) rfl rfl rfl rfl ⟨Nat.le_of_ble_eq_true rfl, Nat.le_of_ble_eq_true rfl⟩ ⟨Nat.zero_le _, Nat.zero_le _⟩ (Nat.le_of_ble_eq_true rfl) ?_
  refine r_istore_n 3 d_Mod_takesOut_11 rfl (by decide) rfl ?_
  refine r_aload_n 0 d_Mod_takesOut_12 rfl rfl ?_
  refine r_getR 184 d_Mod_takesOut_13 fk_Mod_52 rfl rfl rfl (by decide) ?_
  refine r_iload_n 2 d_Mod_takesOut_16 rfl rfl ?_
  refine r_dup2 d_Mod_takesOut_17 rfl rfl ?_
  refine r_iald 3 d_Mod_takesOut_18 rfl rfl (by omega) (by omega) ?_
  rw [hz.1]
  refine r_iconst d_Mod_takesOut_19 ?_
  refine r_isub d_Mod_takesOut_20 ?_
  refine r_iast 3 d_Mod_takesOut_21 rfl rfl (by omega) (by omega) ?_
  refine r_iload_n 3 d_Mod_takesOut_22 rfl rfl ?_
  refine r_istore 4 d_Mod_takesOut_23 (by decide) rfl ?_
  exact L _ (Int.le_refl _) (by omega) _ (fun j => by rw [wr_ne (by omega), if_neg (by omega)]) wr_eq (fun d j q q2 => wr_ne q2)
