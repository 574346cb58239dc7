-- DATA of stops and vans, the past (walks written by wip/whole/gen_dat.py)
theorem pl27 : isPl 27 := by unfold isPl; decide
theorem pl33 : isPl 33 := by unfold isPl; decide
theorem pl39 : isPl 39 := by unfold isPl; decide
theorem pp_all : ∀ k : Fin 20, lay 46 (k.val : Int) = 47 + 6 * (k.val : Int) ∧ 47 + 6 * (k.val : Int) ∈ planL := by decide +kernel
theorem lay_pp {k : Int} (h0 : 0 ≤ k) (h1 : k < 20) : lay 46 k = 47 + 6 * k := by
  have h := (pp_all ⟨k.toNat, by omega⟩).1
  rwa [show ((k.toNat : Nat) : Int) = k by omega] at h
theorem pl_pp {k : Int} (h0 : 0 ≤ k) (h1 : k < 20) : isPl (47 + 6 * k) := by
  have h := (pp_all ⟨k.toNat, by omega⟩).2
  rwa [show ((k.toNat : Nat) : Int) = k by omega] at h
theorem ct_shas {s : Int} {σ : sto} (hs : inR s) (h0 : 0 ≤ σ 9 0) (h1 : σ 9 0 ≤ 12) : CI M_Stops_has 0 [vR 9, vI s] σ (fun r σ' => r = (if 0 ≤ s ∧ s < σ 9 0 then 1 else 0) ∧ σ' = σ) := by
  refine ci_of [vR 9, vI s] fy_Stops_has.1 rfl (Nat.le_of_ble_eq_true rfl) ?_
  refine r_iload_n 1 d_Stops_has_0 rfl rfl ?_
  refine r_if_lt 16 d_Stops_has_1 rfl (by omega) (fun h1 => ?_) (fun h1 => ?_)
  · refine r_iconst d_Stops_has_16 ?_
    refine q_zret d_Stops_has_17 rfl (by omega) ?_
    first
      | exact ⟨by rw [if_pos ⟨by omega, by omega⟩], rfl⟩
      | exact ⟨by rw [if_neg (by omega)], rfl⟩
  · refine r_iload_n 1 d_Stops_has_4 rfl rfl ?_
    refine r_aload_n 0 d_Stops_has_5 rfl rfl ?_
    refine r_getI 0 d_Stops_has_6 fk_Stops_36 rfl rfl rfl ?_
    refine r_icmp_ge 16 d_Stops_has_9 rfl (by omega) (by omega) (fun h9 => ?_) (fun h9 => ?_)
    · refine r_iconst d_Stops_has_16 ?_
      refine q_zret d_Stops_has_17 rfl (by omega) ?_
      first
        | exact ⟨by rw [if_pos ⟨by omega, by omega⟩], rfl⟩
        | exact ⟨by rw [if_neg (by omega)], rfl⟩
    · refine r_iconst d_Stops_has_12 ?_
      refine r_goto 17 d_Stops_has_13 rfl ?_
      refine q_zret d_Stops_has_17 rfl (by omega) ?_
      first
        | exact ⟨by rw [if_pos ⟨by omega, by omega⟩], rfl⟩
        | exact ⟨by rw [if_neg (by omega)], rfl⟩
theorem ct_vhas {s : Int} {σ : sto} (hs : inR s) (h0 : 0 ≤ σ 18 0) (h1 : σ 18 0 ≤ 3) : CI M_Vans_has 0 [vR 18, vI s] σ (fun r σ' => r = (if 0 ≤ s ∧ s < σ 18 0 then 1 else 0) ∧ σ' = σ) := by
  refine ci_of [vR 18, vI s] fy_Vans_has.1 rfl (Nat.le_of_ble_eq_true rfl) ?_
  refine r_iload_n 1 d_Vans_has_0 rfl rfl ?_
  refine r_if_lt 16 d_Vans_has_1 rfl (by omega) (fun h1 => ?_) (fun h1 => ?_)
  · refine r_iconst d_Vans_has_16 ?_
    refine q_zret d_Vans_has_17 rfl (by omega) ?_
    first
      | exact ⟨by rw [if_pos ⟨by omega, by omega⟩], rfl⟩
      | exact ⟨by rw [if_neg (by omega)], rfl⟩
  · refine r_iload_n 1 d_Vans_has_4 rfl rfl ?_
    refine r_aload_n 0 d_Vans_has_5 rfl rfl ?_
    refine r_getI 0 d_Vans_has_6 fk_Vans_24 rfl rfl rfl ?_
    refine r_icmp_ge 16 d_Vans_has_9 rfl (by omega) (by omega) (fun h9 => ?_) (fun h9 => ?_)
    · refine r_iconst d_Vans_has_16 ?_
      refine q_zret d_Vans_has_17 rfl (by omega) ?_
      first
        | exact ⟨by rw [if_pos ⟨by omega, by omega⟩], rfl⟩
        | exact ⟨by rw [if_neg (by omega)], rfl⟩
    · refine r_iconst d_Vans_has_12 ?_
      refine r_goto 17 d_Vans_has_13 rfl ?_
      refine q_zret d_Vans_has_17 rfl (by omega) ?_
      first
        | exact ⟨by rw [if_pos ⟨by omega, by omega⟩], rfl⟩
        | exact ⟨by rw [if_neg (by omega)], rfl⟩
theorem ct_sadd {n k p sv : Int} {σ : sto} (hn : σ 9 0 = n) (h0 : 0 ≤ n) (h1 : n < 12) (v0 : 0 ≤ sv ∧ sv < 2147483648) : CI M_Stops_add 0 [vR 9, vI k, vI p, vI sv] σ (fun r σ' => r = n ∧ σ' = wr (wr (wr (wr (wr (wr (wr σ 9 0 (n + 1)) 10 n k) 11 n p) 14 n (sv / 100)) 15 n (sv % 100)) 16 n (-1)) 17 n 1) := by
  refine ci_of [vR 9, vI k, vI p, vI sv, vU] fy_Stops_add.1 rfl (Nat.le_of_ble_eq_true rfl) ?_
  refine r_aload_n 0 d_Stops_add_0 rfl rfl ?_
  refine r_getI 0 d_Stops_add_1 fk_Stops_36 rfl rfl rfl ?_
  rw [hn]
  refine r_istore 4 d_Stops_add_4 (by decide) rfl ?_
  refine r_aload_n 0 d_Stops_add_6 rfl rfl ?_
  refine r_dup d_Stops_add_7 rfl ?_
  refine r_getI 0 d_Stops_add_8 fk_Stops_36 rfl rfl rfl ?_
  rw [hn]
  refine r_iconst d_Stops_add_11 ?_
  refine r_iadd d_Stops_add_12 ?_
  refine r_putI 0 d_Stops_add_13 fk_Stops_36 rfl rfl rfl (Or.inl rfl) ?_
  refine r_aload_n 0 d_Stops_add_16 rfl rfl ?_
  refine r_getR 10 d_Stops_add_17 fk_Stops_9 rfl rfl rfl (by decide) ?_
  refine r_iload 4 d_Stops_add_20 rfl ?_
  refine r_iload_n 1 d_Stops_add_22 rfl rfl ?_
  refine r_iast 12 d_Stops_add_23 rfl rfl (by omega) (by omega) ?_
  refine r_aload_n 0 d_Stops_add_24 rfl rfl ?_
  refine r_getR 11 d_Stops_add_25 fk_Stops_15 rfl rfl rfl (by decide) ?_
  refine r_iload 4 d_Stops_add_28 rfl ?_
  refine r_iload_n 2 d_Stops_add_30 rfl rfl ?_
  refine r_iast 12 d_Stops_add_31 rfl rfl (by omega) (by omega) ?_
  refine r_aload_n 0 d_Stops_add_32 rfl rfl ?_
  refine r_getR 14 d_Stops_add_33 fk_Stops_24 rfl rfl rfl (by decide) ?_
  refine r_iload 4 d_Stops_add_36 rfl ?_
  refine r_iload_n 3 d_Stops_add_38 rfl rfl ?_
  refine r_bipush d_Stops_add_39 (by decide) ?_
  refine r_idiv d_Stops_add_41 (by omega) (by omega) ?_
  refine r_iast 12 d_Stops_add_42 rfl rfl (by omega) (by omega) ?_
  refine r_aload_n 0 d_Stops_add_43 rfl rfl ?_
  refine r_getR 15 d_Stops_add_44 fk_Stops_27 rfl rfl rfl (by decide) ?_
  refine r_iload 4 d_Stops_add_47 rfl ?_
  refine r_iload_n 3 d_Stops_add_49 rfl rfl ?_
  refine r_bipush d_Stops_add_50 (by decide) ?_
  refine r_irem d_Stops_add_52 (by omega) (by omega) ?_
  refine r_iast 12 d_Stops_add_53 rfl rfl (by omega) (by omega) ?_
  refine r_aload_n 0 d_Stops_add_54 rfl rfl ?_
  refine r_getR 16 d_Stops_add_55 fk_Stops_30 rfl rfl rfl (by decide) ?_
  refine r_iload 4 d_Stops_add_58 rfl ?_
  refine r_iconst d_Stops_add_60 ?_
  refine r_iast 12 d_Stops_add_61 rfl rfl (by omega) (by omega) ?_
  refine r_aload_n 0 d_Stops_add_62 rfl rfl ?_
  refine r_getR 17 d_Stops_add_63 fk_Stops_33 rfl rfl rfl (by decide) ?_
  refine r_iload 4 d_Stops_add_66 rfl ?_
  refine r_iconst d_Stops_add_68 ?_
  refine r_iast 12 d_Stops_add_69 rfl rfl (by omega) (by omega) ?_
  refine r_iload 4 d_Stops_add_70 rfl ?_
  refine q_iret d_Stops_add_72 rfl ?_
  exact ⟨rfl, rfl⟩
theorem ct_join {f d : Int} {σ : sto} (f0 : 0 ≤ f) (f1 : f < 12) (d0 : 0 ≤ d) (d1 : d < 12) : CV M_Stops_join 0 [vR 9, vI f, vI d] σ (fun σ' => σ' = wr (wr (wr σ 16 f d) 16 d f) 15 d (σ 15 f)) := by
  refine cv_of [vR 9, vI f, vI d] fy_Stops_join.1 rfl (Nat.le_of_ble_eq_true rfl) ?_
  refine r_aload_n 0 d_Stops_join_0 rfl rfl ?_
  refine r_getR 16 d_Stops_join_1 fk_Stops_30 rfl rfl rfl (by decide) ?_
  refine r_iload_n 1 d_Stops_join_4 rfl rfl ?_
  refine r_iload_n 2 d_Stops_join_5 rfl rfl ?_
  refine r_iast 12 d_Stops_join_6 rfl rfl (by omega) (by omega) ?_
  refine r_aload_n 0 d_Stops_join_7 rfl rfl ?_
  refine r_getR 16 d_Stops_join_8 fk_Stops_30 rfl rfl rfl (by decide) ?_
  refine r_iload_n 2 d_Stops_join_11 rfl rfl ?_
  refine r_iload_n 1 d_Stops_join_12 rfl rfl ?_
  refine r_iast 12 d_Stops_join_13 rfl rfl (by omega) (by omega) ?_
  refine r_aload_n 0 d_Stops_join_14 rfl rfl ?_
  refine r_getR 15 d_Stops_join_15 fk_Stops_27 rfl rfl rfl (by decide) ?_
  refine r_iload_n 2 d_Stops_join_18 rfl rfl ?_
  refine r_aload_n 0 d_Stops_join_19 rfl rfl ?_
  refine r_getR 15 d_Stops_join_20 fk_Stops_27 rfl rfl rfl (by decide) ?_
  refine r_iload_n 1 d_Stops_join_23 rfl rfl ?_
  refine r_iald 12 d_Stops_join_24 rfl rfl (by omega) (by omega) ?_
  rw [wr_ne (by omega), wr_ne (by omega)]
  refine r_iast 12 d_Stops_join_25 rfl rfl (by omega) (by omega) ?_
  refine q_vret d_Stops_join_26 rfl ?_
  rfl
theorem ct_setSpan {s sp : Int} {σ : sto} (s0 : 0 ≤ s) (s1 : s < 12) (p : 0 ≤ sp ∧ sp < 2147483648) : CV M_Stops_setSpan 0 [vR 9, vI s, vI sp] σ (fun σ' => σ' = wr (wr σ 12 s (sp / 1000)) 13 s (sp % 1000)) := by
  refine cv_of [vR 9, vI s, vI sp] fy_Stops_setSpan.1 rfl (Nat.le_of_ble_eq_true rfl) ?_
  refine r_aload_n 0 d_Stops_setSpan_0 rfl rfl ?_
  refine r_getR 12 d_Stops_setSpan_1 fk_Stops_18 rfl rfl rfl (by decide) ?_
  refine r_iload_n 1 d_Stops_setSpan_4 rfl rfl ?_
  refine r_iload_n 2 d_Stops_setSpan_5 rfl rfl ?_
  refine r_sipush d_Stops_setSpan_6 (by decide) ?_
  refine r_idiv d_Stops_setSpan_9 (by omega) (by omega) ?_
  refine r_iast 12 d_Stops_setSpan_10 rfl rfl (by omega) (by omega) ?_
  refine r_aload_n 0 d_Stops_setSpan_11 rfl rfl ?_
  refine r_getR 13 d_Stops_setSpan_12 fk_Stops_21 rfl rfl rfl (by decide) ?_
  refine r_iload_n 1 d_Stops_setSpan_15 rfl rfl ?_
  refine r_iload_n 2 d_Stops_setSpan_16 rfl rfl ?_
  refine r_sipush d_Stops_setSpan_17 (by decide) ?_
  refine r_irem d_Stops_setSpan_20 (by omega) (by omega) ?_
  refine r_iast 12 d_Stops_setSpan_21 rfl rfl (by omega) (by omega) ?_
  refine q_vret d_Stops_setSpan_22 rfl ?_
  rfl
theorem ct_setShift {s sp : Int} {σ : sto} (s0 : 0 ≤ s) (s1 : s < 3) (p : 0 ≤ sp ∧ sp < 2147483648) : CV M_Vans_setShift 0 [vR 18, vI s, vI sp] σ (fun σ' => σ' = wr (wr σ 20 s (sp / 1000)) 21 s (sp % 1000)) := by
  refine cv_of [vR 18, vI s, vI sp] fy_Vans_setShift.1 rfl (Nat.le_of_ble_eq_true rfl) ?_
  refine r_aload_n 0 d_Vans_setShift_0 rfl rfl ?_
  refine r_getR 20 d_Vans_setShift_1 fk_Vans_15 rfl rfl rfl (by decide) ?_
  refine r_iload_n 1 d_Vans_setShift_4 rfl rfl ?_
  refine r_iload_n 2 d_Vans_setShift_5 rfl rfl ?_
  refine r_sipush d_Vans_setShift_6 (by decide) ?_
  refine r_idiv d_Vans_setShift_9 (by omega) (by omega) ?_
  refine r_iast 3 d_Vans_setShift_10 rfl rfl (by omega) (by omega) ?_
  refine r_aload_n 0 d_Vans_setShift_11 rfl rfl ?_
  refine r_getR 21 d_Vans_setShift_12 fk_Vans_18 rfl rfl rfl (by decide) ?_
  refine r_iload_n 1 d_Vans_setShift_15 rfl rfl ?_
  refine r_iload_n 2 d_Vans_setShift_16 rfl rfl ?_
  refine r_sipush d_Vans_setShift_17 (by decide) ?_
  refine r_irem d_Vans_setShift_20 (by omega) (by omega) ?_
  refine r_iast 3 d_Vans_setShift_21 rfl rfl (by omega) (by omega) ?_
  refine q_vret d_Vans_setShift_22 rfl ?_
  rfl
theorem ct_vadd {n l f : Int} {σ : sto} (hn : σ 18 0 = n) (h0 : 0 ≤ n) (h1 : n < 3) : CI M_Vans_add 0 [vR 18, vI l, vI f] σ (fun r σ' => r = n ∧ σ' = wr (wr (wr σ 18 0 (n + 1)) 19 n l) 22 n f) := by
  refine ci_of [vR 18, vI l, vI f, vU] fy_Vans_add.1 rfl (Nat.le_of_ble_eq_true rfl) ?_
  refine r_aload_n 0 d_Vans_add_0 rfl rfl ?_
  refine r_getI 0 d_Vans_add_1 fk_Vans_24 rfl rfl rfl ?_
  rw [hn]
  refine r_istore_n 3 d_Vans_add_4 rfl (by decide) rfl ?_
  refine r_aload_n 0 d_Vans_add_5 rfl rfl ?_
  refine r_dup d_Vans_add_6 rfl ?_
  refine r_getI 0 d_Vans_add_7 fk_Vans_24 rfl rfl rfl ?_
  rw [hn]
  refine r_iconst d_Vans_add_10 ?_
  refine r_iadd d_Vans_add_11 ?_
  refine r_putI 0 d_Vans_add_12 fk_Vans_24 rfl rfl rfl (Or.inl rfl) ?_
  refine r_aload_n 0 d_Vans_add_15 rfl rfl ?_
  refine r_getR 19 d_Vans_add_16 fk_Vans_9 rfl rfl rfl (by decide) ?_
  refine r_iload_n 3 d_Vans_add_19 rfl rfl ?_
  refine r_iload_n 1 d_Vans_add_20 rfl rfl ?_
  refine r_iast 3 d_Vans_add_21 rfl rfl (by omega) (by omega) ?_
  refine r_aload_n 0 d_Vans_add_22 rfl rfl ?_
  refine r_getR 22 d_Vans_add_23 fk_Vans_21 rfl rfl rfl (by decide) ?_
  refine r_iload_n 3 d_Vans_add_26 rfl rfl ?_
  refine r_iload_n 2 d_Vans_add_27 rfl rfl ?_
  refine r_iast 3 d_Vans_add_28 rfl rfl (by omega) (by omega) ?_
  refine r_iload_n 3 d_Vans_add_29 rfl rfl ?_
  refine q_iret d_Vans_add_30 rfl ?_
  exact ⟨rfl, rfl⟩
/-- the numbers told, of stops and vans and streets, as the class holds them -/
def DC (σ D : sto) (ns nv : Int) : Prop := σ 9 0 = ns ∧ σ 18 0 = nv ∧
  (∀ s, 0 ≤ s → s < 12 → σ 10 s = D 0 s ∧ σ 11 s = D 1 s ∧ σ 12 s = D 2 s ∧ σ 13 s = D 3 s ∧ σ 14 s = D 4 s ∧ σ 16 s = D 6 s ∧ σ 17 s = D 7 s) ∧
  (∀ s, 0 ≤ s → s < ns → σ 15 s = D 5 s) ∧
  (∀ v, 0 ≤ v → v < 3 → σ 19 v = D 8 v ∧ σ 20 v = D 9 v ∧ σ 21 v = D 10 v ∧ σ 22 v = D 11 v) ∧
  (∀ i, 0 ≤ i → i < 512 → D 12 i = σ 4 i)
/-- what was told is as it must be -/
def DOK (D : sto) (ns nv : Int) : Prop := (0 ≤ ns ∧ ns ≤ 12 ∧ 0 ≤ nv ∧ nv ≤ 3) ∧
  (∀ s, 0 ≤ s → s < ns → (0 ≤ D 0 s ∧ D 0 s ≤ 4) ∧ (0 ≤ D 1 s ∧ D 1 s < 8) ∧ (0 ≤ D 2 s ∧ D 2 s ≤ D 3 s ∧ D 3 s < 480) ∧ (0 ≤ D 4 s ∧ D 4 s ≤ 60) ∧ (0 ≤ D 5 s ∧ D 5 s ≤ 99) ∧ (-1 ≤ D 6 s ∧ D 6 s < ns) ∧ (1 ≤ D 7 s ∧ D 7 s ≤ 9)) ∧
  (∀ s, 0 ≤ s → s < ns → (0 ≤ D 6 s → D 6 (D 6 s) = s ∧ (D 0 s = 1 ∧ D 0 (D 6 s) = 2 ∨ D 0 s = 2 ∧ D 0 (D 6 s) = 1)) ∧ (D 0 s = 2 → 0 ≤ D 6 s)) ∧
  (∀ v, 0 ≤ v → v < nv → (1 ≤ D 8 v ∧ D 8 v ≤ 200) ∧ (0 ≤ D 9 v ∧ D 9 v ≤ D 10 v ∧ D 10 v < 480) ∧ (0 ≤ D 11 v ∧ D 11 v ≤ 500)) ∧ SOK D
theorem DC.at {σ D : sto} {ns nv : Int} (h : DC σ D ns nv) {s : Int} (s0 : 0 ≤ s) (s1 : s < 12) : σ 10 s = D 0 s ∧ σ 11 s = D 1 s ∧ σ 12 s = D 2 s ∧ σ 13 s = D 3 s ∧ σ 14 s = D 4 s ∧ σ 16 s = D 6 s ∧ σ 17 s = D 7 s := h.2.2.1 s s0 s1
theorem DC.am {σ D : sto} {ns nv : Int} (h : DC σ D ns nv) {s : Int} (s0 : 0 ≤ s) (s1 : s < ns) : σ 15 s = D 5 s := h.2.2.2.1 s s0 s1
theorem DC.van {σ D : sto} {ns nv : Int} (h : DC σ D ns nv) {v : Int} (v0 : 0 ≤ v) (v1 : v < 3) : σ 19 v = D 8 v ∧ σ 20 v = D 9 v ∧ σ 21 v = D 10 v ∧ σ 22 v = D 11 v := h.2.2.2.2.1 v v0 v1
theorem DC.keep {σ σ' D : sto} {ns nv : Int} (h : DC σ D ns nv) (hF : ∀ c i : Int, (c = 4 ∨ 9 ≤ c ∧ c ≤ 22) → σ' c i = σ c i) : DC σ' D ns nv := by
  obtain ⟨h1, h2, h3, h4, h5, h6⟩ := h
  refine ⟨by rw [hF 9 0 (by omega)]; exact h1, by rw [hF 18 0 (by omega)]; exact h2, fun s s0 s1 => ?_, fun s s0 s1 => ?_, fun v v0 v1 => ?_, fun i i0 i1 => by rw [hF 4 i (by omega)]; exact h6 i i0 i1⟩
  · rw [hF 10 s (by omega), hF 11 s (by omega), hF 12 s (by omega), hF 13 s (by omega), hF 14 s (by omega), hF 16 s (by omega), hF 17 s (by omega)]
    exact h3 s s0 s1
  · rw [hF 15 _ (by omega)]
    exact h4 s s0 s1
  · rw [hF 19 v (by omega), hF 20 v (by omega), hF 21 v (by omega), hF 22 v (by omega)]
    exact h5 v v0 v1
theorem TC.keep {σ σ' D : sto} {B : Int} (h : TC σ D B) (hF : ∀ c i : Int, (c = 3 ∨ c = 5 ∨ c = 7 ∨ c = 8) → σ' c i = σ c i) : TC σ' D B := by
  obtain ⟨h1, h2, h3, h4⟩ := h
  refine ⟨by rw [hF 3 5 (by omega)]; exact h1, fun a b h a0 a1 b0 b1 h0 h1 hne => by rw [hF 5 _ (by omega)]; exact h2 a b h a0 a1 b0 b1 h0 h1 hne, fun s s0 s1 => by rw [hF 8 s (by omega), hF 3 5 (by omega)]; exact h3 s s0 s1, fun a m p a0 a1 m0 m1 p0 p1 hl => ?_⟩
  rw [hF 8 _ (by omega), hF 3 5 (by omega)] at hl
  rw [hF 7 _ (by omega)]
  exact h4 a m p a0 a1 m0 m1 p0 p1 hl
theorem TC.le {σ D : sto} {B C : Int} (h : TC σ D B) (hBC : B ≤ C) : TC σ D C := ⟨⟨h.1.1, Int.le_trans h.1.2 hBC⟩, h.2⟩
theorem ct_isAboard {σ D : sto} {ns nv s : Int} (hC : DC σ D ns nv) (hO : DOK D ns nv) (s0 : 0 ≤ s) (s1 : s < ns) : CI M_Stops_isAboardAtFirst 0 [vR 9, vI s] σ (fun r σ' => r = (if D 0 s = 1 ∨ D 0 s = 2 then 0 else 1) ∧ σ' = σ) := by
  have hn := hO.1
  have ha := hC.at s0 (by omega)
  have hb := (hO.2.1 s s0 s1).1
  refine ci_of [vR 9, vI s] fy_Stops_isAboardAtFirst.1 rfl (Nat.le_of_ble_eq_true rfl) ?_
  refine r_aload_n 0 d_Stops_isAboardAtFirst_0 rfl rfl ?_
  refine r_getR 10 d_Stops_isAboardAtFirst_1 fk_Stops_9 rfl rfl rfl (by decide) ?_
  refine r_iload_n 1 d_Stops_isAboardAtFirst_4 rfl rfl ?_
  refine r_iald 12 d_Stops_isAboardAtFirst_5 rfl rfl (by omega) (by omega) ?_
  refine r_iconst d_Stops_isAboardAtFirst_6 ?_
  refine r_icmp_eq 24 d_Stops_isAboardAtFirst_7 rfl (by omega) (by omega) (fun h7 => ?_) (fun h7 => ?_)
  · refine r_iconst d_Stops_isAboardAtFirst_24 ?_
    refine q_zret d_Stops_isAboardAtFirst_25 rfl (by omega) ?_
    first
      | exact ⟨by rw [if_pos (by omega)], rfl⟩
      | exact ⟨by rw [if_neg (by omega)], rfl⟩
  · refine r_aload_n 0 d_Stops_isAboardAtFirst_10 rfl rfl ?_
    refine r_getR 10 d_Stops_isAboardAtFirst_11 fk_Stops_9 rfl rfl rfl (by decide) ?_
    refine r_iload_n 1 d_Stops_isAboardAtFirst_14 rfl rfl ?_
    refine r_iald 12 d_Stops_isAboardAtFirst_15 rfl rfl (by omega) (by omega) ?_
    refine r_iconst d_Stops_isAboardAtFirst_16 ?_
    refine r_icmp_eq 24 d_Stops_isAboardAtFirst_17 rfl (by omega) (by omega) (fun h17 => ?_) (fun h17 => ?_)
    · refine r_iconst d_Stops_isAboardAtFirst_24 ?_
      refine q_zret d_Stops_isAboardAtFirst_25 rfl (by omega) ?_
      first
        | exact ⟨by rw [if_pos (by omega)], rfl⟩
        | exact ⟨by rw [if_neg (by omega)], rfl⟩
    · refine r_iconst d_Stops_isAboardAtFirst_20 ?_
      refine r_goto 25 d_Stops_isAboardAtFirst_21 rfl ?_
      refine q_zret d_Stops_isAboardAtFirst_25 rfl (by omega) ?_
      first
        | exact ⟨by rw [if_pos (by omega)], rfl⟩
        | exact ⟨by rw [if_neg (by omega)], rfl⟩
/-- how many of the first n stops are MUST -/
def mstN (D : sto) : Nat → Int
  | 0 => 0
  | n + 1 => mstN D n + (if D 0 n = 4 then 1 else 0)
theorem mstN_in (D : sto) (n : Nat) : 0 ≤ mstN D n ∧ mstN D n ≤ n := by
  induction n with
  | zero => exact ⟨Int.le_refl _, Int.le_refl _⟩
  | succ n ih =>
    show 0 ≤ mstN D n + _ ∧ mstN D n + _ ≤ _
    split <;> omega
theorem ct_musts {σ D : sto} {ns nv : Int} (hC : DC σ D ns nv) (hO : DOK D ns nv) : CI M_Stops_musts 0 [vR 9] σ (fun r σ' => r = mstN D ns.toNat ∧ σ' = σ) := by
  have hn := hO.1
  have h9 := hC.1
  refine ci_of [vR 9, vU, vU] fy_Stops_musts.1 rfl (Nat.le_of_ble_eq_true rfl) ?_
  refine r_iconst d_Stops_musts_0 ?_
  refine r_istore_n 1 d_Stops_musts_1 rfl (by decide) rfl ?_
  refine r_iconst d_Stops_musts_2 ?_
  refine r_istore_n 2 d_Stops_musts_3 rfl (by decide) rfl ?_
  have key : ∀ s, 0 ≤ s → s ≤ ns → Run M_Stops_musts (rxI 0 (fun r σ' => r = mstN D ns.toNat ∧ σ' = σ)) (0, 0) 4 [vR 9, vI (mstN D s.toNat), vI s] [] (sg σ) := by
    refine up_ind (b := ns) ?_ ?_
    · skip
      refine r_iload_n 2 d_Stops_musts_4 rfl rfl ?_
      refine r_aload_n 0 d_Stops_musts_5 rfl rfl ?_
      refine r_getI 0 d_Stops_musts_6 fk_Stops_36 rfl rfl rfl ?_
      refine r_icmp_ge 31 d_Stops_musts_9 rfl (by omega) (by omega) (fun h9 => ?_) (fun h9 => absurd h9 (by omega))
      refine r_iload_n 1 d_Stops_musts_31 rfl rfl ?_
      refine q_iret d_Stops_musts_32 rfl ?_
      exact ⟨rfl, rfl⟩
    · intro s s0 s1 ih
      have ha := hC.at s0 (by omega)
      have hb := (hO.2.1 s s0 s1).1
      have hss : ((s.toNat : Nat) : Int) = s := by omega
      have e : mstN D (s + 1).toNat = mstN D s.toNat + (if D 0 s = 4 then 1 else 0) := by
        rw [show (s + 1).toNat = s.toNat + 1 by omega]
        show mstN D s.toNat + (if D 0 ((s.toNat : Nat) : Int) = 4 then 1 else 0) = _
        rw [hss]
      rw [e] at ih
      refine r_iload_n 2 d_Stops_musts_4 rfl rfl ?_
      refine r_aload_n 0 d_Stops_musts_5 rfl rfl ?_
      refine r_getI 0 d_Stops_musts_6 fk_Stops_36 rfl rfl rfl ?_
      refine r_icmp_ge 31 d_Stops_musts_9 rfl (by omega) (by omega) (fun h9 => absurd h9 (by omega)) (fun h9 => ?_)
      refine r_aload_n 0 d_Stops_musts_12 rfl rfl ?_
      refine r_getR 10 d_Stops_musts_13 fk_Stops_9 rfl rfl rfl (by decide) ?_
      refine r_iload_n 2 d_Stops_musts_16 rfl rfl ?_
      refine r_iald 12 d_Stops_musts_17 rfl rfl (by omega) (by omega) ?_
      refine r_iconst d_Stops_musts_18 ?_
      refine r_icmp_ne 25 d_Stops_musts_19 rfl (by omega) (by omega) (fun h19 => ?_) (fun h19 => ?_)
      · refine r_iinc 2 d_Stops_musts_25 rfl (by decide) rfl ?_
        refine r_goto 4 d_Stops_musts_28 rfl ?_
        first
          | (rw [if_pos (by omega)] at ih; exact ih)
          | (rw [if_neg (by omega), Int.add_zero] at ih; exact ih)
      · refine r_iinc 1 d_Stops_musts_22 rfl (by decide) rfl ?_
        refine r_iinc 2 d_Stops_musts_25 rfl (by decide) rfl ?_
        refine r_goto 4 d_Stops_musts_28 rfl ?_
        first
          | (rw [if_pos (by omega)] at ih; exact ih)
          | (rw [if_neg (by omega), Int.add_zero] at ih; exact ih)
  exact key 0 (by omega) (by omega)
def gp (U : List pln) (j : Int) : pln := U.getD j.toNat (fun _ => [])
def lp (U : List pln) : Int := (U.length : Int)
/-- the plans that can be taken back, the latest first -/
def PC (σ : sto) (U : List pln) : Prop := σ 45 2 = lp U ∧ lp U ≤ 20 ∧ 0 ≤ σ 45 1 ∧ σ 45 1 < 20 ∧ ∀ j, 0 ≤ j → j < lp U → PA σ (47 + 6 * ((σ 45 1 + 20 - j) % 20)) (gp U j)
theorem PC.keep {σ σ' : sto} {U : List pln} (h : PC σ U) (hF : ∀ c i : Int, 45 ≤ c → c ≤ 166 → σ' c i = σ c i) : PC σ' U := by
  obtain ⟨h1, h2, h3, h4, h5⟩ := h
  rw [← hF 45 2 (by omega) (by omega)] at h1
  rw [← hF 45 1 (by omega) (by omega)] at h3 h4
  refine ⟨h1, h2, h3, h4, fun j j0 j1 => ?_⟩
  have := h5 j j0 j1
  rw [← hF 45 1 (by omega) (by omega)] at this
  exact this.same (fun c i c0 c1 => hF c i (by omega) (by omega))
def psh (P : pln) (U : List pln) : List pln := (P :: U).take 20
theorem lp_psh {P : pln} {U : List pln} (h : lp U ≤ 20) : lp (psh P U) = if lp U < 20 then lp U + 1 else 20 := by
  unfold lp psh at *
  rw [List.length_take, List.length_cons]
  split <;> omega
theorem gp_psh0 {P : pln} {U : List pln} : gp (psh P U) 0 = P := by
  unfold gp psh
  rfl
theorem gp_psh {P : pln} {U : List pln} {j : Int} (j0 : 1 ≤ j) (j1 : j < lp (psh P U)) (h : lp U ≤ 20) : gp (psh P U) j = gp U (j - 1) := by
  rw [lp_psh h] at j1
  unfold gp psh
  rw [List.getD_eq_getElem?_getD, List.getD_eq_getElem?_getD, List.getElem?_take, if_pos (by split at j1 <;> omega), show j.toNat = (j - 1).toNat + 1 by omega, List.getElem?_cons_succ]
theorem ct_forget {σ : sto} : CV M_Past_forget 0 [vR 45] σ (fun σ' => σ' = wr σ 45 2 0) := by
  refine cv_of [vR 45] fy_Past_forget.1 rfl (Nat.le_of_ble_eq_true rfl) ?_
  refine r_aload_n 0 d_Past_forget_0 rfl rfl ?_
  refine r_iconst d_Past_forget_1 ?_
  refine r_putI 2 d_Past_forget_2 fk_Past_18 rfl rfl rfl (Or.inl rfl) ?_
  refine q_vret d_Past_forget_5 rfl ?_
  rfl
theorem ct_pkeep {σ : sto} {P : pln} {U : List pln} (hP : PA σ 39 P) (hU : PC σ U) : CV M_Past_keep 2 [vR 45, vR 39] σ (fun σ' => PC σ' (psh P U) ∧ ∀ c i, (c < 45 ∨ 166 < c) → σ' c i = σ c i) := by
  obtain ⟨u1, u2, u3, u4, u5⟩ := id hU
  have hlp : 0 ≤ lp U := by unfold lp; omega
  have hP1 : ∀ v, PA (wr σ 45 1 v) 39 P := fun v => hP.same (fun c i c0 c1 => wr_ne (Or.inl (by omega)))
  have e1 : ∀ v, wr σ 45 1 v 45 1 = v := fun v => wr_eq
  refine cv_of [vR 45, vR 39] fy_Past_keep.1 rfl (Nat.le_of_ble_eq_true rfl) ?_
  refine r_aload_n 0 d_Past_keep_0 rfl rfl ?_
  refine r_aload_n 0 d_Past_keep_1 rfl rfl ?_
  refine r_getI 1 d_Past_keep_2 fk_Past_22 rfl rfl rfl ?_
  refine r_iconst d_Past_keep_5 ?_
  refine r_iadd d_Past_keep_6 ?_
  refine r_bipush d_Past_keep_7 (by decide) ?_
  refine r_irem d_Past_keep_9 (by omega) (by omega) ?_
  refine r_putI 1 d_Past_keep_10 fk_Past_22 rfl rfl rfl (Or.inl rfl) ?_
  refine r_aload_n 0 d_Past_keep_13 rfl rfl ?_
  refine r_getR 46 d_Past_keep_14 fk_Past_11 rfl rfl rfl (by decide) ?_
  refine r_aload_n 0 d_Past_keep_17 rfl rfl ?_
  refine r_getI 1 d_Past_keep_18 fk_Past_22 rfl rfl rfl ?_
  rw [e1]
  refine r_aald 20 _ d_Past_keep_21 (Or.inl rfl) rfl (by omega) (by omega) (lay_pp (by omega) (by omega)) (by omega) ?_
  refine r_aload_n 1 d_Past_keep_22 rfl rfl ?_
  refine r_cVV 1 d_Past_keep_23 lk_Past_25 vc_Plan_become (ct_become (pl_pp (by omega) (by omega)) pl39 (by omega) (hP1 _)) rfl rfl (kd_pl (pl_pp (by omega) (by omega))) rfl ⟨Nat.le_of_ble_eq_true rfl, Nat.le_of_ble_eq_true rfl⟩ ⟨Nat.zero_le _, Nat.zero_le _⟩ (Nat.le_of_ble_eq_true rfl) (fun s23 q23 => ?_)
  obtain ⟨b1, b2⟩ := q23
  have hz1 : s23 45 1 = (σ 45 1 + 1) % 20 := by rw [b2 45 1 (by omega), wr_eq]
  have hz2 : s23 45 2 = lp U := by rw [b2 45 2 (by omega), wr_ne (by omega), u1]
  have hold : ∀ j, 1 ≤ j → j < lp (psh P U) → PA s23 (47 + 6 * ((s23 45 1 + 20 - j) % 20)) (gp (psh P U) j) := fun j j0 j1 => by
    rw [gp_psh j0 j1 u2, hz1]
    rw [lp_psh u2] at j1
    have h1 := u5 (j - 1) (by omega) (by split at j1 <;> omega)
    rw [show ((σ 45 1 + 1) % 20 + 20 - j) % 20 = (σ 45 1 + 20 - (j - 1)) % 20 by omega]
    have hj20 : j < 20 := by split at j1 <;> omega
    exact h1.same (fun c i c0 c1 => by rw [b2 c i (by omega), wr_ne (by omega)])
  have hnew : PA s23 (47 + 6 * ((s23 45 1 + 20 - 0) % 20)) P := by
    rw [hz1, show ((σ 45 1 + 1) % 20 + 20 - 0) % 20 = (σ 45 1 + 1) % 20 by omega]
    exact b1
  have hall : ∀ σ2 : sto, (∀ c i, c ≠ 45 ∨ i ≠ 2 → σ2 c i = s23 c i) → σ2 45 2 = lp (psh P U) → PC σ2 (psh P U) ∧ ∀ c i, (c < 45 ∨ 166 < c) → σ2 c i = σ c i := fun σ2 hs hl => by
    have hz : σ2 45 1 = s23 45 1 := hs 45 1 (by omega)
    refine ⟨⟨hl, by rw [lp_psh u2]; split <;> omega, by rw [hz, hz1]; omega, by rw [hz, hz1]; omega, fun j j0 j1 => ?_⟩, fun c i hc => by rw [hs c i (by omega), b2 c i (by omega), wr_ne (by omega)]⟩
    rw [hz]
    by_cases e : j = 0
    · rw [e, gp_psh0]; exact hnew.same (fun c i c0 c1 => hs c i (by omega))
    · exact (hold j (by omega) j1).same (fun c i c0 c1 => hs c i (by omega))
  refine r_aload_n 0 d_Past_keep_26 rfl rfl ?_
  refine r_getI 2 d_Past_keep_27 fk_Past_18 rfl rfl rfl ?_
  refine r_bipush d_Past_keep_30 (by decide) ?_
  refine r_icmp_ge 45 d_Past_keep_32 rfl (by omega) (by omega) (fun h32 => ?_) (fun h32 => ?_)
  · refine q_vret d_Past_keep_45 rfl ?_
    first
      | exact hall _ (fun _ _ _ => rfl) (by rw [hz2, lp_psh u2, if_neg (by omega)]; omega)
      | exact hall _ (fun c i hc => wr_ne hc) (by rw [wr_eq, hz2, lp_psh u2, if_pos (by omega)])
  · refine r_aload_n 0 d_Past_keep_35 rfl rfl ?_
    refine r_dup d_Past_keep_36 rfl ?_
    refine r_getI 2 d_Past_keep_37 fk_Past_18 rfl rfl rfl ?_
    refine r_iconst d_Past_keep_40 ?_
    refine r_iadd d_Past_keep_41 ?_
    refine r_putI 2 d_Past_keep_42 fk_Past_18 rfl rfl rfl (Or.inl rfl) ?_
    refine q_vret d_Past_keep_45 rfl ?_
    first
      | exact hall _ (fun _ _ _ => rfl) (by rw [hz2, lp_psh u2, if_neg (by omega)]; omega)
      | exact hall _ (fun c i hc => wr_ne hc) (by rw [wr_eq, hz2, lp_psh u2, if_pos (by omega)])
theorem ct_bringBack {σ : sto} {P : pln} {U : List pln} (hU : PC σ (P :: U)) : CV M_Past_bringBack 2 [vR 45, vR 39] σ (fun σ' => PA σ' 39 P ∧ PC σ' U ∧ ∀ c i, (c < 39 ∨ 45 < c ∨ c = 45 ∧ i ≠ 1 ∧ i ≠ 2) → σ' c i = σ c i) := by
  obtain ⟨u1, u2, u3, u4, u5⟩ := id hU
  have hlp : 0 ≤ lp U := by unfold lp; omega
  have hl1 : lp (P :: U) = lp U + 1 := by unfold lp; rw [List.length_cons]; omega
  have hP0 : PA σ (47 + 6 * σ 45 1) P := by
    have := u5 0 (by omega) (by omega)
    rwa [show (σ 45 1 + 20 - 0) % 20 = σ 45 1 by omega] at this
  refine cv_of [vR 45, vR 39] fy_Past_bringBack.1 rfl (Nat.le_of_ble_eq_true rfl) ?_
  refine r_aload_n 0 d_Past_bringBack_0 rfl rfl ?_
  refine r_getI 2 d_Past_bringBack_1 fk_Past_18 rfl rfl rfl ?_
  refine r_if_ne 8 d_Past_bringBack_4 rfl (by omega) (fun h4 => ?_) (fun h4 => absurd h4 (by omega))
  refine r_aload_n 1 d_Past_bringBack_8 rfl rfl ?_
  refine r_aload_n 0 d_Past_bringBack_9 rfl rfl ?_
  refine r_getR 46 d_Past_bringBack_10 fk_Past_11 rfl rfl rfl (by decide) ?_
  refine r_aload_n 0 d_Past_bringBack_13 rfl rfl ?_
  refine r_getI 1 d_Past_bringBack_14 fk_Past_22 rfl rfl rfl ?_
  refine r_aald 20 _ d_Past_bringBack_17 (Or.inl rfl) rfl (by omega) (by omega) (lay_pp (by omega) (by omega)) (by omega) ?_
  refine r_cVV 1 d_Past_bringBack_18 lk_Past_25 vc_Plan_become (ct_become pl39 (pl_pp (by omega) (by omega)) (by omega) hP0) rfl rfl (kd_pl pl39) rfl ⟨Nat.le_of_ble_eq_true rfl, Nat.le_of_ble_eq_true rfl⟩ ⟨Nat.zero_le _, Nat.zero_le _⟩ (Nat.le_of_ble_eq_true rfl) (fun s18 q18 => ?_)
  obtain ⟨b1, b2⟩ := q18
  have z1 : s18 45 1 = σ 45 1 := b2 45 1 (by omega)
  have z2 : s18 45 2 = lp U + 1 := by rw [b2 45 2 (by omega), u1, hl1]
  refine r_aload_n 0 d_Past_bringBack_21 rfl rfl ?_
  refine r_aload_n 0 d_Past_bringBack_22 rfl rfl ?_
  refine r_getI 1 d_Past_bringBack_23 fk_Past_22 rfl rfl rfl ?_
  refine r_bipush d_Past_bringBack_26 (by decide) ?_
  refine r_iadd d_Past_bringBack_28 ?_
  refine r_iconst d_Past_bringBack_29 ?_
  refine r_isub d_Past_bringBack_30 ?_
  refine r_bipush d_Past_bringBack_31 (by decide) ?_
  refine r_irem d_Past_bringBack_33 (by omega) (by omega) ?_
  refine r_putI 1 d_Past_bringBack_34 fk_Past_22 rfl rfl rfl (Or.inl rfl) ?_
  refine r_aload_n 0 d_Past_bringBack_37 rfl rfl ?_
  refine r_dup d_Past_bringBack_38 rfl ?_
  refine r_getI 2 d_Past_bringBack_39 fk_Past_18 rfl rfl rfl ?_
  refine r_iconst d_Past_bringBack_42 ?_
  refine r_isub d_Past_bringBack_43 ?_
  refine r_putI 2 d_Past_bringBack_44 fk_Past_18 rfl rfl rfl (Or.inl rfl) ?_
  refine q_vret d_Past_bringBack_47 rfl ?_
  refine ⟨b1.same (fun c i c0 c1 => by rw [wr_ne (by omega), wr_ne (by omega)]), ⟨by rw [wr_eq, wr_ne (by omega), z2]; omega, by omega, ?_, ?_, fun j j0 j1 => ?_⟩, fun c i hc => by rw [wr_ne (by omega), wr_ne (by omega)]; exact b2 c i (by omega)⟩
  · rw [wr_ne (by omega), wr_eq, z1]; omega
  · rw [wr_ne (by omega), wr_eq, z1]; omega
  · rw [wr_ne (c' := 45) (i' := 1) (by omega), wr_eq, z1]
    have h1 := u5 (j + 1) (by omega) (by omega)
    have e : gp (P :: U) (j + 1) = gp U j := by unfold gp; rw [show (j + 1).toNat = j.toNat + 1 by omega]; rfl
    rw [e, show (σ 45 1 + 20 - (j + 1)) % 20 = ((σ 45 1 + 20 - 1) % 20 + 20 - j) % 20 by omega] at h1
    exact h1.same (fun c i c0 c1 => by rw [wr_ne (by omega), wr_ne (by omega)]; exact b2 c i (by omega))
