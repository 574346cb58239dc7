-- THE CLASS: what its calls share (walks written by wip/whole/gen_hlp.py)
theorem ct_hasS {σ D : sto} {ns nv s : Int} (hC : DC σ D ns nv) (hO : DOK D ns nv) (hs : inR s) : CI M_Stops_has 0 [vR 9, vI s] σ (fun r σ' => (r = 1 ∧ 0 ≤ s ∧ s < ns ∨ r = 0 ∧ ¬ (0 ≤ s ∧ s < ns)) ∧ σ' = σ) := by
  have hn := hO.1
  have h9 := hC.1
  refine ci_of [vR 9, vI s] fy_Stops_has.1 rfl (Nat.le_of_ble_eq_true rfl) ?_
  refine r_iload_n 1 d_Stops_has_0 rfl rfl ?_
  refine r_if_lt 16 d_Stops_has_1 rfl (by omega) (fun h1 => ?_) (fun h1 => ?_)
  · refine r_iconst d_Stops_has_16 ?_
    refine q_zret d_Stops_has_17 rfl (by omega) ?_
    exact ⟨by omega, rfl⟩
  · refine r_iload_n 1 d_Stops_has_4 rfl rfl ?_
    refine r_aload_n 0 d_Stops_has_5 rfl rfl ?_
    refine r_getI 0 d_Stops_has_6 fk_Stops_36 rfl rfl rfl ?_
    rw [h9]
    refine r_icmp_ge 16 d_Stops_has_9 rfl (by omega) (by omega) (fun h9 => ?_) (fun h9 => ?_)
    · refine r_iconst d_Stops_has_16 ?_
      refine q_zret d_Stops_has_17 rfl (by omega) ?_
      exact ⟨by omega, rfl⟩
    · refine r_iconst d_Stops_has_12 ?_
      refine r_goto 17 d_Stops_has_13 rfl ?_
      refine q_zret d_Stops_has_17 rfl (by omega) ?_
      exact ⟨by omega, rfl⟩
theorem ct_hasV {σ D : sto} {ns nv s : Int} (hC : DC σ D ns nv) (hO : DOK D ns nv) (hs : inR s) : CI M_Vans_has 0 [vR 18, vI s] σ (fun r σ' => (r = 1 ∧ 0 ≤ s ∧ s < nv ∨ r = 0 ∧ ¬ (0 ≤ s ∧ s < nv)) ∧ σ' = σ) := by
  have hn := hO.1
  have h18 := hC.2.1
  refine ci_of [vR 18, vI s] fy_Vans_has.1 rfl (Nat.le_of_ble_eq_true rfl) ?_
  refine r_iload_n 1 d_Vans_has_0 rfl rfl ?_
  refine r_if_lt 16 d_Vans_has_1 rfl (by omega) (fun h1 => ?_) (fun h1 => ?_)
  · refine r_iconst d_Vans_has_16 ?_
    refine q_zret d_Vans_has_17 rfl (by omega) ?_
    exact ⟨by omega, rfl⟩
  · refine r_iload_n 1 d_Vans_has_4 rfl rfl ?_
    refine r_aload_n 0 d_Vans_has_5 rfl rfl ?_
    refine r_getI 0 d_Vans_has_6 fk_Vans_24 rfl rfl rfl ?_
    rw [h18]
    refine r_icmp_ge 16 d_Vans_has_9 rfl (by omega) (by omega) (fun h9 => ?_) (fun h9 => ?_)
    · refine r_iconst d_Vans_has_16 ?_
      refine q_zret d_Vans_has_17 rfl (by omega) ?_
      exact ⟨by omega, rfl⟩
    · refine r_iconst d_Vans_has_12 ?_
      refine r_goto 17 d_Vans_has_13 rfl ?_
      refine q_zret d_Vans_has_17 rfl (by omega) ?_
      exact ⟨by omega, rfl⟩
theorem ct_isPlace {σ : sto} {p : Int} (hs : inR p) : CI M_Van_isPlace 0 [vI p] σ (fun r σ' => (r = 1 ∧ 0 ≤ p ∧ p < 8 ∨ r = 0 ∧ ¬ (0 ≤ p ∧ p < 8)) ∧ σ' = σ) := by
  refine ci_of [vI p] fy_Van_isPlace.1 rfl (Nat.le_of_ble_eq_true rfl) ?_
  refine r_iload_n 0 d_Van_isPlace_0 rfl rfl ?_
  refine r_if_lt 14 d_Van_isPlace_1 rfl (by omega) (fun h1 => ?_) (fun h1 => ?_)
  · refine r_iconst d_Van_isPlace_14 ?_
    refine q_zret d_Van_isPlace_15 rfl (by omega) ?_
    exact ⟨by omega, rfl⟩
  · refine r_iload_n 0 d_Van_isPlace_4 rfl rfl ?_
    refine r_bipush d_Van_isPlace_5 (by decide) ?_
    refine r_icmp_ge 14 d_Van_isPlace_7 rfl (by omega) (by omega) (fun h7 => ?_) (fun h7 => ?_)
    · refine r_iconst d_Van_isPlace_14 ?_
      refine q_zret d_Van_isPlace_15 rfl (by omega) ?_
      exact ⟨by omega, rfl⟩
    · refine r_iconst d_Van_isPlace_10 ?_
      refine r_goto 15 d_Van_isPlace_11 rfl ?_
      refine q_zret d_Van_isPlace_15 rfl (by omega) ?_
      exact ⟨by omega, rfl⟩
theorem ct_isSpan {σ : sto} {p : Int} (hs : inR p) : CI M_Van_isSpan 0 [vI p] σ (fun r σ' => (r = 1 ∧ spanOK p ∨ r = 0 ∧ ¬ (spanOK p)) ∧ σ' = σ) := by
  refine ci_of [vI p, vU, vU] fy_Van_isSpan.1 rfl (Nat.le_of_ble_eq_true rfl) ?_
  refine r_iload_n 0 d_Van_isSpan_0 rfl rfl ?_
  refine r_if_ge 6 d_Van_isSpan_1 rfl (by omega) (fun h1 => ?_) (fun h1 => ?_)
  · refine r_iload_n 0 d_Van_isSpan_6 rfl rfl ?_
    refine r_sipush d_Van_isSpan_7 (by decide) ?_
    refine r_idiv d_Van_isSpan_10 (by omega) (by omega) ?_
    refine r_istore_n 1 d_Van_isSpan_11 rfl (by decide) rfl ?_
    refine r_iload_n 0 d_Van_isSpan_12 rfl rfl ?_
    refine r_sipush d_Van_isSpan_13 (by decide) ?_
    refine r_irem d_Van_isSpan_16 (by omega) (by omega) ?_
    refine r_istore_n 2 d_Van_isSpan_17 rfl (by decide) rfl ?_
    refine r_iload_n 2 d_Van_isSpan_18 rfl rfl ?_
    refine r_sipush d_Van_isSpan_19 (by decide) ?_
    refine r_icmp_ge 34 d_Van_isSpan_22 rfl (by omega) (by omega) (fun h22 => ?_) (fun h22 => ?_)
    · refine r_iconst d_Van_isSpan_34 ?_
      refine q_zret d_Van_isSpan_35 rfl (by omega) ?_
      exact ⟨by omega, rfl⟩
    · refine r_iload_n 1 d_Van_isSpan_25 rfl rfl ?_
      refine r_iload_n 2 d_Van_isSpan_26 rfl rfl ?_
      refine r_icmp_gt 34 d_Van_isSpan_27 rfl (by omega) (by omega) (fun h27 => ?_) (fun h27 => ?_)
      · refine r_iconst d_Van_isSpan_34 ?_
        refine q_zret d_Van_isSpan_35 rfl (by omega) ?_
        exact ⟨by omega, rfl⟩
      · refine r_iconst d_Van_isSpan_30 ?_
        refine r_goto 35 d_Van_isSpan_31 rfl ?_
        refine q_zret d_Van_isSpan_35 rfl (by omega) ?_
        exact ⟨by omega, rfl⟩
  · refine r_iconst d_Van_isSpan_4 ?_
    refine q_zret d_Van_isSpan_5 rfl (by omega) ?_
    exact ⟨by omega, rfl⟩
theorem ct_isService {σ : sto} {p k : Int} (hs : inR p) (hk : inR k) : CI M_Van_isService 0 [vI p, vI k] σ (fun r σ' => (r = 1 ∧ 0 ≤ p ∧ p / 100 ≤ 60 ∧ (k = 2 ∨ p % 100 ≤ 50) ∨ r = 0 ∧ ¬ (0 ≤ p ∧ p / 100 ≤ 60 ∧ (k = 2 ∨ p % 100 ≤ 50))) ∧ σ' = σ) := by
  refine ci_of [vI p, vI k] fy_Van_isService.1 rfl (Nat.le_of_ble_eq_true rfl) ?_
  refine r_iload_n 0 d_Van_isService_0 rfl rfl ?_
  refine r_if_lt 13 d_Van_isService_1 rfl (by omega) (fun h1 => ?_) (fun h1 => ?_)
  · refine r_iconst d_Van_isService_13 ?_
    refine q_zret d_Van_isService_14 rfl (by omega) ?_
    exact ⟨by omega, rfl⟩
  · refine r_iload_n 0 d_Van_isService_4 rfl rfl ?_
    refine r_bipush d_Van_isService_5 (by decide) ?_
    refine r_idiv d_Van_isService_7 (by omega) (by omega) ?_
    refine r_bipush d_Van_isService_8 (by decide) ?_
    refine r_icmp_le 15 d_Van_isService_10 rfl (by omega) (by omega) (fun h10 => ?_) (fun h10 => ?_)
    · refine r_iload_n 1 d_Van_isService_15 rfl rfl ?_
      refine r_iconst d_Van_isService_16 ?_
      refine r_icmp_eq 29 d_Van_isService_17 rfl (by omega) (by omega) (fun h17 => ?_) (fun h17 => ?_)
      · refine r_iconst d_Van_isService_29 ?_
        refine r_goto 34 d_Van_isService_30 rfl ?_
        refine q_zret d_Van_isService_34 rfl (by omega) ?_
        exact ⟨by omega, rfl⟩
      · refine r_iload_n 0 d_Van_isService_20 rfl rfl ?_
        refine r_bipush d_Van_isService_21 (by decide) ?_
        refine r_irem d_Van_isService_23 (by omega) (by omega) ?_
        refine r_bipush d_Van_isService_24 (by decide) ?_
        refine r_icmp_gt 33 d_Van_isService_26 rfl (by omega) (by omega) (fun h26 => ?_) (fun h26 => ?_)
        · refine r_iconst d_Van_isService_33 ?_
          refine q_zret d_Van_isService_34 rfl (by omega) ?_
          exact ⟨by omega, rfl⟩
        · refine r_iconst d_Van_isService_29 ?_
          refine r_goto 34 d_Van_isService_30 rfl ?_
          refine q_zret d_Van_isService_34 rfl (by omega) ?_
          exact ⟨by omega, rfl⟩
    · refine r_iconst d_Van_isService_13 ?_
      refine q_zret d_Van_isService_14 rfl (by omega) ?_
      exact ⟨by omega, rfl⟩
theorem ct_isGap {σ D : sto} {ns nv v i : Int} {P : pln} (hC : DC σ D ns nv) (hO : DOK D ns nv) (hQ : PA σ 39 P) (hv : inR v) (hi : inR i) : CI M_Van_isGap 1 [vR 0, vI v, vI i] σ (fun r σ' => (r = 1 ∧ 0 ≤ v ∧ v < nv ∧ 0 ≤ i ∧ i ≤ ln (P v) ∨ r = 0 ∧ ¬ (0 ≤ v ∧ v < nv ∧ 0 ≤ i ∧ i ≤ ln (P v))) ∧ σ' = σ) := by
  have hn := hO.1
  refine ci_of [vR 0, vI v, vI i] fy_Van_isGap.1 rfl (Nat.le_of_ble_eq_true rfl) ?_
  refine r_aload_n 0 d_Van_isGap_0 rfl rfl ?_
  refine r_getR 18 d_Van_isGap_1 fk_Van_42 rfl rfl rfl (by decide) ?_
  refine r_iload_n 1 d_Van_isGap_4 rfl rfl ?_
  refine r_cVI 6 d_Van_isGap_5 lk_Van_163 vc_Vans_has (ct_hasV hC hO hv) rfl rfl rfl rfl ⟨Nat.le_of_ble_eq_true rfl, Nat.le_of_ble_eq_true rfl⟩ ⟨Nat.zero_le _, Nat.zero_le _⟩ (Nat.le_of_ble_eq_true rfl) (fun r5 s5 q5 => ?_)
  obtain ⟨q5, hs5⟩ := q5
  have hs5 := hs5.symm
  subst hs5
  refine r_if_eq 32 d_Van_isGap_8 rfl (by omega) (fun h8 => ?_) (fun h8 => ?_)
  · refine r_iconst d_Van_isGap_32 ?_
    refine q_zret d_Van_isGap_33 rfl (by omega) ?_
    exact ⟨by omega, rfl⟩
  · have hz := hQ.len (v := v) (by omega) (by omega)
    rw [show (39 : Int) + 5 = 44 from rfl] at hz
    refine r_iload_n 2 d_Van_isGap_11 rfl rfl ?_
    refine r_if_lt 32 d_Van_isGap_12 rfl (by omega) (fun h12 => ?_) (fun h12 => ?_)
    · refine r_iconst d_Van_isGap_32 ?_
      refine q_zret d_Van_isGap_33 rfl (by omega) ?_
      exact ⟨by omega, rfl⟩
    · refine r_iload_n 2 d_Van_isGap_15 rfl rfl ?_
      refine r_aload_n 0 d_Van_isGap_16 rfl rfl ?_
      refine r_getR 39 d_Van_isGap_17 fk_Van_46 rfl rfl rfl (by decide) ?_
      refine r_getR 44 d_Van_isGap_20 fk_Van_178 rfl rfl rfl (by decide) ?_
      refine r_iload_n 1 d_Van_isGap_23 rfl rfl ?_
      refine r_iald 3 d_Van_isGap_24 rfl rfl (by omega) (by omega) ?_
      rw [hz.1]
      refine r_icmp_gt 32 d_Van_isGap_25 rfl (by omega) (by omega) (fun h25 => ?_) (fun h25 => ?_)
      · refine r_iconst d_Van_isGap_32 ?_
        refine q_zret d_Van_isGap_33 rfl (by omega) ?_
        exact ⟨by omega, rfl⟩
      · refine r_iconst d_Van_isGap_28 ?_
        refine r_goto 33 d_Van_isGap_29 rfl ?_
        refine q_zret d_Van_isGap_33 rfl (by omega) ?_
        exact ⟨by omega, rfl⟩
theorem ct_isTaken {σ : sto} {v i : Int} {P : pln} (hQ : PA σ 39 P) (v0 : 0 ≤ v) (v1 : v < 3) (hi : inR i) : CI M_Van_isTaken 0 [vR 0, vI v, vI i] σ (fun r σ' => (r = 1 ∧ 0 ≤ i ∧ i < ln (P v) ∨ r = 0 ∧ ¬ (0 ≤ i ∧ i < ln (P v))) ∧ σ' = σ) := by
  have hz := hQ.len v0 v1
  rw [show (39 : Int) + 5 = 44 from rfl] at hz
  refine ci_of [vR 0, vI v, vI i] fy_Van_isTaken.1 rfl (Nat.le_of_ble_eq_true rfl) ?_
  refine r_iload_n 2 d_Van_isTaken_0 rfl rfl ?_
  refine r_if_lt 21 d_Van_isTaken_1 rfl (by omega) (fun h1 => ?_) (fun h1 => ?_)
  · refine r_iconst d_Van_isTaken_21 ?_
    refine q_zret d_Van_isTaken_22 rfl (by omega) ?_
    exact ⟨by omega, rfl⟩
  · refine r_iload_n 2 d_Van_isTaken_4 rfl rfl ?_
    refine r_aload_n 0 d_Van_isTaken_5 rfl rfl ?_
    refine r_getR 39 d_Van_isTaken_6 fk_Van_46 rfl rfl rfl (by decide) ?_
    refine r_getR 44 d_Van_isTaken_9 fk_Van_178 rfl rfl rfl (by decide) ?_
    refine r_iload_n 1 d_Van_isTaken_12 rfl rfl ?_
    refine r_iald 3 d_Van_isTaken_13 rfl rfl (by omega) (by omega) ?_
    rw [hz.1]
    refine r_icmp_ge 21 d_Van_isTaken_14 rfl (by omega) (by omega) (fun h14 => ?_) (fun h14 => ?_)
    · refine r_iconst d_Van_isTaken_21 ?_
      refine q_zret d_Van_isTaken_22 rfl (by omega) ?_
      exact ⟨by omega, rfl⟩
    · refine r_iconst d_Van_isTaken_17 ?_
      refine r_goto 22 d_Van_isTaken_18 rfl ?_
      refine q_zret d_Van_isTaken_22 rfl (by omega) ?_
      exact ⟨by omega, rfl⟩
theorem ct_refuse {σ : sto} {x : Int} (hx : -8 ≤ x ∧ x ≤ -2) : CI M_Van_refuse 0 [vR 0, vI x] σ (fun r σ' => r = x ∧ σ' = wr σ 168 (-x) (σ 168 (-x) + 1)) := by
  refine ci_of [vR 0, vI x] fy_Van_refuse.1 rfl (Nat.le_of_ble_eq_true rfl) ?_
  refine r_aload_n 0 d_Van_refuse_0 rfl rfl ?_
  refine r_getR 168 d_Van_refuse_1 fk_Van_67 rfl rfl rfl (by decide) ?_
  refine r_iload_n 1 d_Van_refuse_4 rfl rfl ?_
  refine r_ineg d_Van_refuse_5 ?_
  refine r_dup2 d_Van_refuse_6 rfl rfl ?_
  refine r_iald 9 d_Van_refuse_7 rfl rfl (by omega) (by omega) ?_
  refine r_iconst d_Van_refuse_8 ?_
  refine r_iadd d_Van_refuse_9 ?_
  refine r_iast 9 d_Van_refuse_10 rfl rfl (by omega) (by omega) ?_
  refine r_iload_n 1 d_Van_refuse_11 rfl rfl ?_
  refine q_iret d_Van_refuse_12 rfl ?_
  exact ⟨rfl, rfl⟩
def VF (σ σ' : sto) : Prop := ∀ c i : Int, 169 ≤ c → σ' c i = σ c i
theorem VF.rf {σ : sto} : VF σ σ := fun _ _ _ => rfl
theorem VF.tr {σ σ' σ'' : sto} (h : VF σ σ') (g : VF σ' σ'') : VF σ σ'' := fun c i q => (g c i q).trans (h c i q)
theorem PF.vf {σ σ' : sto} (h : PF σ σ') : VF σ σ' := fun c i q => h c i (by omega)
theorem JF.vf {σ σ' : sto} (h : JF σ σ') : VF σ σ' := h.pf.vf
theorem OI.keep {σ σ' : sto} {g : G} {B : Int} (h : OI σ g B) (hF : PF σ σ') (hT : TC σ' g.D B) : OI σ' g B := by
  obtain ⟨h1, h2, h3, h4, h5, h6, h7, h8⟩ := h
  exact ⟨hF.dc h1, hT, h3.same (fun c i c0 c1 => hF c i (by omega)), h4.keep (fun c i c0 c1 => hF c i (by omega)), by rw [hF 0 9 (by omega)]; exact h5, fun i i0 i1 => by rw [hF 167 i (by omega)]; exact h6 i i0 i1, by rw [hF 0 10 (by omega)]; exact h7, fun k k0 k1 => by rw [hF 168 k (by omega)]; exact h8 k k0 k1⟩
theorem OI.le {σ : sto} {g : G} {B C : Int} (h : OI σ g B) (hBC : B ≤ C) : OI σ g C := ⟨h.1, h.2.1.le hBC, h.2.2⟩
/-- a call's end: the answer, what the office holds then, and the other side untouched -/
def PV (a : Int × G) (σ : sto) (B : Int) (r : Int) (σ' : sto) : Prop := r = a.1 ∧ OI σ' a.2 (B + 2) ∧ a.2.ok ∧ VF σ σ'
theorem no_ok {g : G} {x : Int} (hk : g.ok) : (no g x).2.ok := hk
theorem OI.no {σ : sto} {g : G} {B x : Int} (h : OI σ g B) : OI (wr σ 168 (-x) (σ 168 (-x) + 1)) (no g x).2 B := by
  obtain ⟨h1, h2, h3, h4, h5, h6, h7, h8⟩ := h
  refine ⟨h1.keep (fun c i q => wr_ne (by omega)), h2.keep (fun c i q => wr_ne (by omega)), h3.same (fun c i c0 c1 => wr_ne (by omega)), h4.keep (fun c i c0 c1 => wr_ne (by omega)), by rw [wr_ne (by omega)]; exact h5, fun i i0 i1 => by rw [wr_ne (by omega)]; exact h6 i i0 i1, by rw [wr_ne (by omega)]; exact h7, fun k k0 k1 => ?_⟩
  show wr σ 168 (-x) (σ 168 (-x) + 1) 168 k = if k = -x then g.rf k + 1 else g.rf k
  by_cases e : k = -x
  · rw [if_pos e, e, wr_eq, ← e, h8 k k0 k1]
  · rw [if_neg e, wr_ne (Or.inr e), h8 k k0 k1]
theorem fin_no {σ σ1 σ' : sto} {g : G} {B B1 x r : Int} {a : Int × G} (hI : OI σ1 g B1) (hB : B1 ≤ B + 2) (hk : g.ok) (hF : VF σ σ1) (hr : r = x ∧ σ' = wr σ1 168 (-x) (σ1 168 (-x) + 1)) (e : a = no g x) : PV a σ B r σ' := by
  rw [e, hr.1, hr.2]
  exact ⟨rfl, (hI.no).le hB, hk, hF.tr (fun c i q => wr_ne (by omega))⟩
theorem plk_tr {P Q : pln} : plk P Q ↔ ∀ u, 0 ≤ u → u < 3 → P u = Q u := by
  constructor
  · intro h u u0 u1
    have q : u = 0 ∨ u = 1 ∨ u = 2 := by omega
    rcases q with rfl | rfl | rfl
    · exact h.1
    · exact h.2.1
    · exact h.2.2
  · intro h; exact ⟨h 0 (by omega) (by omega), h 1 (by omega) (by omega), h 2 (by omega) (by omega)⟩
theorem adopt_ok {g : G} {Q : pln} (hk : g.ok) (hP : PO g.ns g.nv Q) (hA : AF g.D g.nv Q) : (adopt g Q).ok := by
  obtain ⟨k1, k2, k3, k4, k5, k6⟩ := id hk
  unfold adopt
  by_cases h : plk Q g.P
  · rw [ifp_t h]; exact hk
  · rw [ifp_f h]
    refine ⟨k1, hP, hA, fun R hR => ?_, ?_, k6⟩
    · rcases List.mem_cons.mp (List.mem_of_mem_take hR) with q | q
      · rw [q]; exact ⟨k2, k3⟩
      · exact k4 R q
    · show lp (psh g.P g.U) ≤ 20
      rw [lp_psh k5]
      split <;> omega
theorem ct_adopt {σ : sto} {g : G} {B : Int} {Q : pln} (hI : OI σ g B) (hQ : PA σ 27 Q) : CV M_Van_adopt 3 [vR 0] σ (fun σ' => OI σ' (adopt g Q) B ∧ PA σ' 27 Q ∧ VF σ σ') := by
  obtain ⟨h1, h2, h3, h4, h5, h6, h7, h8⟩ := id hI
  refine cv_of [vR 0] fy_Van_adopt.1 rfl (Nat.le_of_ble_eq_true rfl) ?_
  refine r_aload_n 0 d_Van_adopt_0 rfl rfl ?_
  refine r_getR 27 d_Van_adopt_1 fk_Van_20 rfl rfl rfl (by decide) ?_
  refine r_aload_n 0 d_Van_adopt_4 rfl rfl ?_
  refine r_getR 39 d_Van_adopt_5 fk_Van_46 rfl rfl rfl (by decide) ?_
  refine r_cVI 1 d_Van_adopt_8 lk_Van_284 vc_Plan_isLike (ct_isLike pl27 pl39 hQ h3) rfl rfl rfl rfl ⟨Nat.le_of_ble_eq_true rfl, Nat.le_of_ble_eq_true rfl⟩ ⟨Nat.zero_le _, Nat.zero_le _⟩ (Nat.le_of_ble_eq_true rfl) (fun r8 s8 q8 => ?_)
  obtain ⟨q8, hs8⟩ := q8
  have hs8 := hs8.symm
  subst hs8
  refine r_if_eq 15 d_Van_adopt_11 rfl (by omega) (fun h11 => ?_) (fun h11 => ?_)
  · refine r_aload_n 0 d_Van_adopt_15 rfl rfl ?_
    refine r_getR 45 d_Van_adopt_16 fk_Van_52 rfl rfl rfl (by decide) ?_
    refine r_aload_n 0 d_Van_adopt_19 rfl rfl ?_
    refine r_getR 39 d_Van_adopt_20 fk_Van_46 rfl rfl rfl (by decide) ?_
    refine r_cVV 0 d_Van_adopt_23 lk_Van_288 vc_Past_keep (ct_pkeep h3 h4) rfl rfl rfl rfl ⟨Nat.le_of_ble_eq_true rfl, Nat.le_of_ble_eq_true rfl⟩ ⟨Nat.zero_le _, Nat.zero_le _⟩ (Nat.le_of_ble_eq_true rfl) (fun s23 q23 => ?_)
    obtain ⟨a1, a2⟩ := q23
    refine r_aload_n 0 d_Van_adopt_26 rfl rfl ?_
    refine r_getR 39 d_Van_adopt_27 fk_Van_46 rfl rfl rfl (by decide) ?_
    refine r_aload_n 0 d_Van_adopt_30 rfl rfl ?_
    refine r_getR 27 d_Van_adopt_31 fk_Van_20 rfl rfl rfl (by decide) ?_
    refine r_cVV 1 d_Van_adopt_34 lk_Van_210 vc_Plan_become (ct_become pl39 pl27 (by decide) (hQ.same (fun c i c0 c1 => a2 c i (by omega)))) rfl rfl rfl rfl ⟨Nat.le_of_ble_eq_true rfl, Nat.le_of_ble_eq_true rfl⟩ ⟨Nat.zero_le _, Nat.zero_le _⟩ (Nat.le_of_ble_eq_true rfl) (fun s34 q34 => ?_)
    obtain ⟨b1, b2⟩ := q34
    refine q_vret d_Van_adopt_37 rfl ?_
    have e : ¬ plk Q g.P := q8.elim (fun q => absurd q.1 (by omega)) (fun q => q.2)
    have ec : ∀ c i : Int, (c < 39 ∨ 166 < c) → s34 c i = σ c i := fun c i q => by rw [b2 c i (by omega), a2 c i (by omega)]
    refine ⟨?_, hQ.same (fun c i c0 c1 => ec c i (by omega)), fun c i q => ec c i (by omega)⟩
    unfold adopt
    rw [ifp_f e]
    exact ⟨h1.keep (fun c i q => ec c i (by omega)), h2.keep (fun c i q => ec c i (by omega)), b1, a1.keep (fun c i c0 c1 => b2 c i (by omega)), by rw [ec 0 9 (by omega)]; exact h5, fun i i0 i1 => by rw [ec 167 i (by omega)]; exact h6 i i0 i1, by rw [ec 0 10 (by omega)]; exact h7, fun k k0 k1 => by rw [ec 168 k (by omega)]; exact h8 k k0 k1⟩
  · refine q_vret d_Van_adopt_14 rfl ?_
    have e : plk Q g.P := q8.elim (fun q => q.2) (fun q => absurd q.1 (by omega))
    refine ⟨?_, hQ, VF.rf⟩
    unfold adopt
    rw [ifp_t e]
    exact hI
theorem ct_settle {σ σ0 : sto} {g : G} {B : Int} {Q : pln} (hI : OI σ g B) (hB : B ≤ 4000) (hk : g.ok) (hQ : PA σ 27 Q) (hP : PO g.ns g.nv Q) (hF : VF σ0 σ) : CI M_Van_settle 6 [vR 0] σ (PV (settle g Q) σ0 B) := by
  obtain ⟨k1, k2, k3, k4, k5, k6⟩ := id hk
  have hn := k1.1
  have hRV := hP.rv hn.1 hn.2.1
  refine ci_of [vR 0, vU] fy_Van_settle.1 rfl (Nat.le_of_ble_eq_true rfl) ?_
  refine r_aload_n 0 d_Van_settle_0 rfl rfl ?_
  refine r_getR 2 d_Van_settle_1 fk_Van_25 rfl rfl rfl (by decide) ?_
  refine r_aload_n 0 d_Van_settle_4 rfl rfl ?_
  refine r_getR 27 d_Van_settle_5 fk_Van_20 rfl rfl rfl (by decide) ?_
  refine r_cVI 5 d_Van_settle_8 lk_Van_92 vc_Trip_total (ct_total hI.1 k1 hI.2.1 hB pl27 hQ hRV) rfl rfl rfl rfl ⟨Nat.le_of_ble_eq_true rfl, Nat.le_of_ble_eq_true rfl⟩ ⟨Nat.zero_le _, Nat.zero_le _⟩ (Nat.le_of_ble_eq_true rfl) (fun r8 s8 q8 => ?_)
  obtain ⟨e8, hT, hJ⟩ := q8
  have hI2 := hI.keep hJ.pf hT
  have hin := fun h => tot_in k1 hRV (show AF g.D g.nv Q from h) g.nv hn.2.2.1 (Int.le_refl _)
  have hQ2 := hJ.pa pl27 hQ
  have hrr : -1 ≤ r8 ∧ r8 ≤ 60000 * g.nv := e8.elim (fun q => by have := hin q.1; omega) (fun q => by omega)
  refine r_istore_n 1 d_Van_settle_11 rfl (by decide) rfl ?_
  refine r_iload_n 1 d_Van_settle_12 rfl rfl ?_
  refine r_iconst d_Van_settle_13 ?_
  refine r_icmp_ne 24 d_Van_settle_14 rfl (by omega) (by omega) (fun h14 => ?_) (fun h14 => ?_)
  · refine r_aload_n 0 d_Van_settle_24 rfl rfl ?_
    refine r_cVV 7 d_Van_settle_25 lk_Van_248 vc_Van_adopt (ct_adopt hI2 hQ2) rfl rfl rfl rfl ⟨Nat.le_of_ble_eq_true rfl, Nat.le_of_ble_eq_true rfl⟩ ⟨Nat.zero_le _, Nat.zero_le _⟩ (Nat.le_of_ble_eq_true rfl) (fun s25 q25 => ?_)
    obtain ⟨a1, a2, a3⟩ := q25
    refine r_iload_n 1 d_Van_settle_28 rfl rfl ?_
    refine q_iret d_Van_settle_29 rfl ?_
    have e : AF g.D g.nv Q ∧ r8 = tot g.D g.nv Q := e8.resolve_right (fun q => by omega)
    unfold settle
    rw [ifp_t e.1]
    exact ⟨e.2, a1.le (by omega), adopt_ok hk hP e.1, (hF.tr hJ.vf).tr a3⟩
  · refine r_aload_n 0 d_Van_settle_17 rfl rfl ?_
    refine r_bipush d_Van_settle_18 (by decide) ?_
    refine r_cVI 7 d_Van_settle_20 lk_Van_74 vc_Van_refuse (ct_refuse (by omega)) rfl rfl rfl rfl ⟨Nat.le_of_ble_eq_true rfl, Nat.le_of_ble_eq_true rfl⟩ ⟨Nat.zero_le _, Nat.zero_le _⟩ (Nat.le_of_ble_eq_true rfl) (fun r20 s20 q20 => ?_)
    have q := q20
    refine q_iret d_Van_settle_23 rfl ?_
    have e : ¬ AF g.D g.nv Q := e8.elim (fun q => by have := hin q.1; omega) (fun q => q.1)
    exact fin_no hI2 (by omega) hk (hF.tr hJ.vf) q (by unfold settle; rw [ifp_f e])
