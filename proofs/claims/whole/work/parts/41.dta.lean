-- THE CLASS: the calls that change the data (walks written by wip/whole/gen_dta.py)
theorem SOK_cg {D D' : sto} (h : ∀ i, D' 12 i = D 12 i) (hS : SOK D) : SOK D' := by
  have e : tk D' = tk D := by funext a b; exact tk_cg h a b
  unfold SOK; rw [e]; exact hS
theorem TC.cg {σ D D' : sto} {B : Int} (h : ∀ i, D' 12 i = D 12 i) (hT : TC σ D B) : TC σ D' B := by
  have e : tk D' = tk D := by funext a b; exact tk_cg h a b
  have e2 : way D' = way D := by funext a b t; exact way_cg h a b t
  unfold TC; rw [e, e2]; exact hT
theorem wr_both {σ D : sto} {c i k v c' k' i' : Int} (h : σ c' i' = D k' i') (e : c' = c ↔ k' = k) : wr σ c i v c' i' = wr D k i v k' i' := by
  unfold wr
  by_cases q : c' = c
  · have q2 := e.mp q
    by_cases r : i' = i
    · rw [if_pos ⟨q, r⟩, if_pos ⟨q2, r⟩]
    · rw [if_neg (fun z => r z.2), if_neg (fun z => r z.2)]; exact h
  · rw [if_neg (fun z => q z.1), if_neg (fun z => q (e.mpr z.1))]; exact h
theorem DC.both {σ D : sto} {ns nv c k i v : Int} (h : DC σ D ns nv) (hck : (c = 12 ∧ k = 2) ∨ (c = 13 ∧ k = 3) ∨ (c = 17 ∧ k = 7) ∨ (c = 19 ∧ k = 8) ∨ (c = 20 ∧ k = 9) ∨ (c = 21 ∧ k = 10) ∨ (c = 22 ∧ k = 11)) : DC (wr σ c i v) (wr D k i v) ns nv := by
  obtain ⟨h1, h2, h3, h4, h5, h6⟩ := h
  refine ⟨by rw [wr_ne (by omega)]; exact h1, by rw [wr_ne (by omega)]; exact h2, fun s s0 s1 => ?_, fun s s0 s1 => ?_, fun u u0 u1 => ?_, fun i i0 i1 => ?_⟩
  · obtain ⟨a1, a2, a3, a4, a5, a6, a7⟩ := h3 s s0 s1
    exact ⟨wr_both a1 (by omega), wr_both a2 (by omega), wr_both a3 (by omega), wr_both a4 (by omega), wr_both a5 (by omega), wr_both a6 (by omega), wr_both a7 (by omega)⟩
  · rw [wr_ne (by omega), wr_ne (by omega)]; exact h4 s s0 s1
  · obtain ⟨a1, a2, a3, a4⟩ := h5 u u0 u1
    exact ⟨wr_both a1 (by omega), wr_both a2 (by omega), wr_both a3 (by omega), wr_both a4 (by omega)⟩
  · rw [wr_ne (by omega), wr_ne (by omega)]; exact h6 i i0 i1
theorem DC.st {σ σ' D D' : sto} {ns nv : Int} (h : DC σ D ns nv) (hF : ∀ c i : Int, 9 ≤ c → c ≤ 22 → σ' c i = σ c i) (h4 : ∀ i, 0 ≤ i → i < 512 → D' 12 i = σ' 4 i) (hD : ∀ k i, k ≠ 12 → D' k i = D k i) : DC σ' D' ns nv := by
  obtain ⟨g1, g2, g3, g4, g5, g6⟩ := h
  refine ⟨by rw [hF 9 0 (by omega) (by omega)]; exact g1, by rw [hF 18 0 (by omega) (by omega)]; exact g2, fun s s0 s1 => ?_, fun s s0 s1 => ?_, fun u u0 u1 => ?_, h4⟩
  · rw [hF 10 _ (by omega) (by omega), hF 11 _ (by omega) (by omega), hF 12 _ (by omega) (by omega), hF 13 _ (by omega) (by omega), hF 14 _ (by omega) (by omega), hF 16 _ (by omega) (by omega), hF 17 _ (by omega) (by omega), hD 0 _ (by omega), hD 1 _ (by omega), hD 2 _ (by omega), hD 3 _ (by omega), hD 4 _ (by omega), hD 6 _ (by omega), hD 7 _ (by omega)]; exact g3 s s0 s1
  · rw [hD 5 _ (by omega), hF 15 _ (by omega) (by omega)]; exact g4 s s0 s1
  · rw [hF 19 _ (by omega) (by omega), hF 20 _ (by omega) (by omega), hF 21 _ (by omega) (by omega), hF 22 _ (by omega) (by omega), hD 8 _ (by omega), hD 9 _ (by omega), hD 10 _ (by omega), hD 11 _ (by omega)]; exact g5 u u0 u1
theorem DOK.st {D D' : sto} {ns nv : Int} (h : DOK D ns nv) (hS : SOK D') (hD : ∀ k i, k ≠ 12 → D' k i = D k i) : DOK D' ns nv := by
  obtain ⟨g1, g2, g3, g4, g5⟩ := h
  refine ⟨g1, fun s s0 s1 => ?_, fun s s0 s1 => ?_, fun u u0 u1 => ?_, hS⟩
  · rw [hD 0 _ (by omega), hD 1 _ (by omega), hD 2 _ (by omega), hD 3 _ (by omega), hD 4 _ (by omega), hD 5 _ (by omega), hD 6 _ (by omega), hD 7 _ (by omega)]; exact g2 s s0 s1
  · rw [hD 6 s (by omega), hD 0 s (by omega), hD 6 _ (by omega), hD 0 _ (by omega)]; exact g3 s s0 s1
  · rw [hD 8 _ (by omega), hD 9 _ (by omega), hD 10 _ (by omega), hD 11 _ (by omega)]; exact g4 u u0 u1
theorem DOK.w7 {D : sto} {ns nv t p : Int} (h : DOK D ns nv) (p0 : 1 ≤ p) (p1 : p ≤ 9) : DOK (wr D 7 t p) ns nv := by
  obtain ⟨g1, g2, g3, g4, g5⟩ := h
  have e : ∀ k i, k ≠ 7 → wr D 7 t p k i = D k i := fun k i q => wr_ne (Or.inl q)
  refine ⟨g1, fun s s0 s1 => ?_, fun s s0 s1 => ?_, fun u u0 u1 => ?_, SOK_cg (fun i => e 12 i (by omega)) g5⟩
  · obtain ⟨a1, a2, a3, a4, a5, a6, a7⟩ := g2 s s0 s1
    rw [e 0 _ (by omega), e 1 _ (by omega), e 2 _ (by omega), e 3 _ (by omega), e 4 _ (by omega), e 5 _ (by omega), e 6 _ (by omega)]
    refine ⟨a1, a2, a3, a4, a5, a6, ?_⟩
    unfold wr
    split
    · exact ⟨p0, p1⟩
    · exact a7
  · rw [e 6 s (by omega), e 0 s (by omega), e 6 _ (by omega), e 0 _ (by omega)]; exact g3 s s0 s1
  · rw [e 8 _ (by omega), e 9 _ (by omega), e 10 _ (by omega), e 11 _ (by omega)]; exact g4 u u0 u1
theorem DOK.span {D : sto} {ns nv t a b : Int} (h : DOK D ns nv) (p : 0 ≤ a ∧ a ≤ b ∧ b < 480) : DOK (wr (wr D 2 t a) 3 t b) ns nv := by
  obtain ⟨g1, g2, g3, g4, g5⟩ := h
  have e : ∀ k i, k ≠ 2 → k ≠ 3 → wr (wr D 2 t a) 3 t b k i = D k i := fun k i q r => by rw [wr_ne (Or.inl r), wr_ne (Or.inl q)]
  refine ⟨g1, fun s s0 s1 => ?_, fun s s0 s1 => ?_, fun u u0 u1 => ?_, SOK_cg (fun i => e 12 i (by omega) (by omega)) g5⟩
  · obtain ⟨a1, a2, a3, a4, a5, a6, a7⟩ := g2 s s0 s1
    rw [e 0 _ (by omega) (by omega), e 1 _ (by omega) (by omega), e 4 _ (by omega) (by omega), e 5 _ (by omega) (by omega), e 6 _ (by omega) (by omega), e 7 _ (by omega) (by omega)]
    refine ⟨a1, a2, ?_, a4, a5, a6, a7⟩
    by_cases q : s = t
    · rw [q, wr_eq, wr_ne (by omega), wr_eq]; exact p
    · rw [wr_ne (by omega), wr_ne (by omega), wr_ne (by omega), wr_ne (by omega)]; exact a3
  · rw [e 6 s (by omega) (by omega), e 0 s (by omega) (by omega), e 6 _ (by omega) (by omega), e 0 _ (by omega) (by omega)]; exact g3 s s0 s1
  · rw [e 8 _ (by omega) (by omega), e 9 _ (by omega) (by omega), e 10 _ (by omega) (by omega), e 11 _ (by omega) (by omega)]; exact g4 u u0 u1
theorem DOK.shift {D : sto} {ns nv t a b : Int} (h : DOK D ns nv) (p : 0 ≤ a ∧ a ≤ b ∧ b < 480) : DOK (wr (wr D 9 t a) 10 t b) ns nv := by
  obtain ⟨g1, g2, g3, g4, g5⟩ := h
  have e : ∀ k i, k ≠ 9 → k ≠ 10 → wr (wr D 9 t a) 10 t b k i = D k i := fun k i q r => by rw [wr_ne (Or.inl r), wr_ne (Or.inl q)]
  refine ⟨g1, fun s s0 s1 => ?_, fun s s0 s1 => ?_, fun u u0 u1 => ?_, SOK_cg (fun i => e 12 i (by omega) (by omega)) g5⟩
  · rw [e 0 _ (by omega) (by omega), e 1 _ (by omega) (by omega), e 2 _ (by omega) (by omega), e 3 _ (by omega) (by omega), e 4 _ (by omega) (by omega), e 5 _ (by omega) (by omega), e 6 _ (by omega) (by omega), e 7 _ (by omega) (by omega)]; exact g2 s s0 s1
  · rw [e 6 s (by omega) (by omega), e 0 s (by omega) (by omega), e 6 _ (by omega) (by omega), e 0 _ (by omega) (by omega)]; exact g3 s s0 s1
  · obtain ⟨a1, a2, a3⟩ := g4 u u0 u1
    rw [e 8 _ (by omega) (by omega), e 11 _ (by omega) (by omega)]
    refine ⟨a1, ?_, a3⟩
    by_cases q : u = t
    · rw [q, wr_eq, wr_ne (by omega), wr_eq]; exact p
    · rw [wr_ne (by omega), wr_ne (by omega), wr_ne (by omega), wr_ne (by omega)]; exact a2
theorem DOK.van {D : sto} {ns nv l f a b : Int} (h : DOK D ns nv) (h3 : nv < 3) (pl : 1 ≤ l ∧ l ≤ 200) (pf : 0 ≤ f ∧ f ≤ 500) (p : 0 ≤ a ∧ a ≤ b ∧ b < 480) : DOK (wr (wr (wr (wr D 8 nv l) 11 nv f) 9 nv a) 10 nv b) ns (nv + 1) := by
  obtain ⟨g1, g2, g3, g4, g5⟩ := h
  have e : ∀ k i, (k < 8 ∨ 11 < k ∨ i ≠ nv) → wr (wr (wr (wr D 8 nv l) 11 nv f) 9 nv a) 10 nv b k i = D k i := fun k i q => by rw [wr_ne (by omega), wr_ne (by omega), wr_ne (by omega), wr_ne (by omega)]
  refine ⟨by omega, fun s s0 s1 => ?_, fun s s0 s1 => ?_, fun u u0 u1 => ?_, SOK_cg (fun i => e 12 i (by omega)) g5⟩
  · rw [e 0 _ (by omega), e 1 _ (by omega), e 2 _ (by omega), e 3 _ (by omega), e 4 _ (by omega), e 5 _ (by omega), e 6 _ (by omega), e 7 _ (by omega)]; exact g2 s s0 s1
  · rw [e 6 s (by omega), e 0 s (by omega), e 6 _ (by omega), e 0 _ (by omega)]; exact g3 s s0 s1
  · by_cases q : u = nv
    · have e8 : wr (wr (wr (wr D 8 nv l) 11 nv f) 9 nv a) 10 nv b 8 nv = l := by rw [wr_ne (by omega), wr_ne (by omega), wr_ne (by omega), wr_eq]
      have e9 : wr (wr (wr (wr D 8 nv l) 11 nv f) 9 nv a) 10 nv b 9 nv = a := by rw [wr_ne (by omega), wr_eq]
      have e11 : wr (wr (wr (wr D 8 nv l) 11 nv f) 9 nv a) 10 nv b 11 nv = f := by rw [wr_ne (by omega), wr_ne (by omega), wr_eq]
      rw [q, e8, e9, e11, wr_eq]
      exact ⟨pl, p, pf⟩
    · rw [e 8 _ (by omega), e 9 _ (by omega), e 10 _ (by omega), e 11 _ (by omega)]; exact g4 u u0 (by omega)
/-- the office's own cells stand -/
def KF (σ σ' : sto) : Prop := ∀ c i : Int, (c = 0 ∨ 39 ≤ c) → σ' c i = σ c i
theorem KF.tr {σ σ' σ'' : sto} (h : KF σ σ') (g : KF σ' σ'') : KF σ σ'' := fun c i q => (g c i q).trans (h c i q)
theorem KF.vf {σ σ' : sto} (h : KF σ σ') : VF σ σ' := fun c i q => h c i (by omega)
theorem JF.kf {σ σ' : sto} (h : JF σ σ') : KF σ σ' := fun c i q => h.pf c i (by omega)
theorem OI.back {σ σ1 : sto} {g : G} {B B1 : Int} (hI : OI σ g B) (hF : KF σ σ1) (hC : DC σ1 g.D g.ns g.nv) (hT : TC σ1 g.D B1) : OI σ1 g B1 := by
  obtain ⟨h1, h2, h3, h4, h5, h6, h7, h8⟩ := hI
  exact ⟨hC, hT, h3.same (fun c i c0 c1 => hF c i (by omega)), h4.keep (fun c i c0 c1 => hF c i (by omega)), by rw [hF 0 9 (by omega)]; exact h5, fun i i0 i1 => by rw [hF 167 i (by omega)]; exact h6 i i0 i1, by rw [hF 0 10 (by omega)]; exact h7, fun k k0 k1 => by rw [hF 168 k (by omega)]; exact h8 k k0 k1⟩
theorem fin_data {σ σ1 D' : sto} {g : G} {B B1 ns' nv' a : Int} (hI : OI σ g B) (hB : B1 ≤ B + 2) (hk : g.ok) (hF : KF σ σ1) (hC : DC σ1 D' ns' nv') (hT : TC σ1 D' B1) (hO : DOK D' ns' nv') (hP : PO ns' nv' g.P) (hA : AF D' nv' g.P) : PV (a, g.data D' ns' nv') σ B a (wr σ1 45 2 0) := by
  obtain ⟨h1, h2, h3, h4, h5, h6, h7, h8⟩ := hI
  refine ⟨rfl, ?_, ⟨hO, hP, hA, fun Q hQ => (by cases hQ), (by show (0 : Int) ≤ 20; decide), hk.2.2.2.2.2⟩, fun c i q => by rw [wr_ne (by omega)]; exact hF c i (by omega)⟩
  refine ⟨hC.keep (fun c i q => wr_ne (by omega)), (hT.keep (fun c i q => wr_ne (by omega))).le hB, h3.same (fun c i c0 c1 => by rw [wr_ne (by omega)]; exact hF c i (by omega)), ?_, by rw [wr_ne (by omega), hF 0 9 (by omega)]; exact h5, fun i i0 i1 => by rw [wr_ne (by omega), hF 167 i (by omega)]; exact h6 i i0 i1, by rw [wr_ne (by omega), hF 0 10 (by omega)]; exact h7, fun k k0 k1 => by rw [wr_ne (by omega), hF 168 k (by omega)]; exact h8 k k0 k1⟩
  refine ⟨by rw [wr_eq]; rfl, (by show (0 : Int) ≤ 20; decide), ?_, ?_, fun j j0 j1 => (by have : j < 0 := j1; omega)⟩
  · rw [wr_ne (by omega), hF 45 1 (by omega)]; exact h4.2.2.1
  · rw [wr_ne (by omega), hF 45 1 (by omega)]; exact h4.2.2.2.1
theorem cv_price {σ : sto} {g : G} {B s p : Int} (hI : OI σ g B) (hB : B ≤ 3998) (hk : g.ok) (h_s : inR s) (h_p : inR p) : CI M_Van_price 14 [vR 0, vI s, vI p] σ (PV (sp_price g s p) σ B) := by
  obtain ⟨h1, hT, hQ, hU, h09, hrn, h010, hrf⟩ := id hI
  obtain ⟨k1, k2, k3, k4, k5, k6⟩ := id hk
  have hn := k1.1
  have hRV := k2.rv hn.1 hn.2.1
  refine ci_of [vR 0, vI s, vI p, vU] fy_Van_price.1 rfl (Nat.le_of_ble_eq_true rfl) ?_
  refine r_aload_n 0 d_Van_price_0 rfl rfl ?_
  refine r_getR 9 d_Van_price_1 fk_Van_37 rfl rfl rfl (by decide) ?_
  refine r_iload_n 1 d_Van_price_4 rfl rfl ?_
  refine r_cVI 3 d_Van_price_5 lk_Van_114 vc_Stops_has (ct_hasS h1 k1 (by omega)) rfl rfl rfl rfl ⟨Nat.le_of_ble_eq_true rfl, Nat.le_of_ble_eq_true rfl⟩ ⟨Nat.zero_le _, Nat.zero_le _⟩ (Nat.le_of_ble_eq_true rfl) (fun r5 s5 q5 => ?_)
  obtain ⟨q5, hs5⟩ := q5
  have hs5 := hs5.symm
  subst hs5
  refine r_if_ne 18 d_Van_price_8 rfl (by omega) (fun h8 => ?_) (fun h8 => ?_)
  · have hat := h1.at (s := s) (by omega) (by omega)
    have hds := k1.2.1 s (by omega) (by omega)
    refine r_aload_n 0 d_Van_price_18 rfl rfl ?_
    refine r_getR 9 d_Van_price_19 fk_Van_37 rfl rfl rfl (by decide) ?_
    refine r_getR 10 d_Van_price_22 fk_Van_119 rfl rfl rfl (by decide) ?_
    refine r_iload_n 1 d_Van_price_25 rfl rfl ?_
    refine r_iald 12 d_Van_price_26 rfl rfl (by omega) (by omega) ?_
    refine r_iconst d_Van_price_27 ?_
    rw [hat.1]
    refine r_icmp_eq 38 d_Van_price_28 rfl (by omega) (by omega) (fun h28 => ?_) (fun h28 => ?_)
    · refine r_iload_n 2 d_Van_price_38 rfl rfl ?_
      refine r_iconst d_Van_price_39 ?_
      refine r_icmp_lt 49 d_Van_price_40 rfl (by omega) (by omega) (fun h40 => ?_) (fun h40 => ?_)
      · refine r_aload_n 0 d_Van_price_49 rfl rfl ?_
        refine r_bipush d_Van_price_50 (by decide) ?_
        refine r_cVI 7 d_Van_price_52 lk_Van_74 vc_Van_refuse (ct_refuse (by omega)) rfl rfl rfl rfl ⟨Nat.le_of_ble_eq_true rfl, Nat.le_of_ble_eq_true rfl⟩ ⟨Nat.zero_le _, Nat.zero_le _⟩ (Nat.le_of_ble_eq_true rfl) (fun r52 s52 q52 => ?_)
        have q := q52
        refine q_iret d_Van_price_55 rfl ?_
        exact fin_no hI (by omega) hk VF.rf q (by unfold sp_price; (repeat (first | rw [if_pos (by omega)] | rw [if_neg (by omega)])); (try rfl))
      · refine r_iload_n 2 d_Van_price_43 rfl rfl ?_
        refine r_bipush d_Van_price_44 (by decide) ?_
        refine r_icmp_le 56 d_Van_price_46 rfl (by omega) (by omega) (fun h46 => ?_) (fun h46 => ?_)
        · refine r_aload_n 0 d_Van_price_56 rfl rfl ?_
          refine r_getR 9 d_Van_price_57 fk_Van_37 rfl rfl rfl (by decide) ?_
          refine r_getR 17 d_Van_price_60 fk_Van_151 rfl rfl rfl (by decide) ?_
          refine r_iload_n 1 d_Van_price_63 rfl rfl ?_
          refine r_iald 12 d_Van_price_64 rfl rfl (by omega) (by omega) ?_
          rw [hat.2.2.2.2.2.2]
          refine r_istore_n 3 d_Van_price_65 rfl (by decide) rfl ?_
          refine r_aload_n 0 d_Van_price_66 rfl rfl ?_
          refine r_getR 9 d_Van_price_67 fk_Van_37 rfl rfl rfl (by decide) ?_
          refine r_getR 17 d_Van_price_70 fk_Van_151 rfl rfl rfl (by decide) ?_
          refine r_iload_n 1 d_Van_price_73 rfl rfl ?_
          refine r_iload_n 2 d_Van_price_74 rfl rfl ?_
          refine r_iast 12 d_Van_price_75 rfl rfl (by omega) (by omega) ?_
          refine r_aload_n 0 d_Van_price_76 rfl rfl ?_
          refine r_getR 45 d_Van_price_77 fk_Van_52 rfl rfl rfl (by decide) ?_
          refine r_cVV 0 d_Van_price_80 lk_Van_99 vc_Past_forget ct_forget rfl rfl rfl rfl ⟨Nat.le_of_ble_eq_true rfl, Nat.le_of_ble_eq_true rfl⟩ ⟨Nat.zero_le _, Nat.zero_le _⟩ (Nat.le_of_ble_eq_true rfl) (fun s80 q80 => ?_)
          subst q80
          refine r_iload_n 3 d_Van_price_83 rfl rfl ?_
          refine q_iret d_Van_price_84 rfl ?_
          refine fin_eq (fin_data (D' := wr g.D 7 s p) hI (show B ≤ B + 2 by omega) hk (fun c i q => wr_ne (by omega)) (h1.both (by omega)) ((hT.cg (fun i => wr_ne (by omega))).keep (fun c i q => wr_ne (by omega))) (k1.w7 (by omega) (by omega)) k2 (fun v v0 v1 => ?_)) (by unfold sp_price; (repeat (first | rw [if_pos (by omega)] | rw [if_neg (by omega)])); (try rfl))
          rw [why_cg (D := g.D) (fun k t q0 q1 _ => wr_ne (by omega)) (wr_ne (by omega)) (wr_ne (by omega)) (wr_ne (by omega)) (fun i => wr_ne (by omega))]
          exact k3 v v0 v1
        · refine r_aload_n 0 d_Van_price_49 rfl rfl ?_
          refine r_bipush d_Van_price_50 (by decide) ?_
          refine r_cVI 7 d_Van_price_52 lk_Van_74 vc_Van_refuse (ct_refuse (by omega)) rfl rfl rfl rfl ⟨Nat.le_of_ble_eq_true rfl, Nat.le_of_ble_eq_true rfl⟩ ⟨Nat.zero_le _, Nat.zero_le _⟩ (Nat.le_of_ble_eq_true rfl) (fun r52 s52 q52 => ?_)
          have q := q52
          refine q_iret d_Van_price_55 rfl ?_
          exact fin_no hI (by omega) hk VF.rf q (by unfold sp_price; (repeat (first | rw [if_pos (by omega)] | rw [if_neg (by omega)])); (try rfl))
    · refine r_aload_n 0 d_Van_price_31 rfl rfl ?_
      refine r_bipush d_Van_price_32 (by decide) ?_
      refine r_cVI 7 d_Van_price_34 lk_Van_74 vc_Van_refuse (ct_refuse (by omega)) rfl rfl rfl rfl ⟨Nat.le_of_ble_eq_true rfl, Nat.le_of_ble_eq_true rfl⟩ ⟨Nat.zero_le _, Nat.zero_le _⟩ (Nat.le_of_ble_eq_true rfl) (fun r34 s34 q34 => ?_)
      have q := q34
      refine q_iret d_Van_price_37 rfl ?_
      exact fin_no hI (by omega) hk VF.rf q (by unfold sp_price; (repeat (first | rw [if_pos (by omega)] | rw [if_neg (by omega)])); (try rfl))
  · refine r_aload_n 0 d_Van_price_11 rfl rfl ?_
    refine r_bipush d_Van_price_12 (by decide) ?_
    refine r_cVI 7 d_Van_price_14 lk_Van_74 vc_Van_refuse (ct_refuse (by omega)) rfl rfl rfl rfl ⟨Nat.le_of_ble_eq_true rfl, Nat.le_of_ble_eq_true rfl⟩ ⟨Nat.zero_le _, Nat.zero_le _⟩ (Nat.le_of_ble_eq_true rfl) (fun r14 s14 q14 => ?_)
    have q := q14
    refine q_iret d_Van_price_17 rfl ?_
    exact fin_no hI (by omega) hk VF.rf q (by unfold sp_price; (repeat (first | rw [if_pos (by omega)] | rw [if_neg (by omega)])); (try rfl))
theorem cv_van {σ : sto} {g : G} {B l sh f : Int} (hI : OI σ g B) (hB : B ≤ 3998) (hk : g.ok) (h_l : inR l) (h_sh : inR sh) (h_f : inR f) : CI M_Van_van 14 [vR 0, vI l, vI sh, vI f] σ (PV (sp_van g l sh f) σ B) := by
  obtain ⟨h1, hT, hQ, hU, h09, hrn, h010, hrf⟩ := id hI
  obtain ⟨k1, k2, k3, k4, k5, k6⟩ := id hk
  have hn := k1.1
  have hRV := k2.rv hn.1 hn.2.1
  refine ci_of [vR 0, vI l, vI sh, vI f, vU] fy_Van_van.1 rfl (Nat.le_of_ble_eq_true rfl) ?_
  refine r_iload_n 1 d_Van_van_0 rfl rfl ?_
  refine r_iconst d_Van_van_1 ?_
  refine r_icmp_lt 19 d_Van_van_2 rfl (by omega) (by omega) (fun h2 => ?_) (fun h2 => ?_)
  · refine r_aload_n 0 d_Van_van_19 rfl rfl ?_
    refine r_bipush d_Van_van_20 (by decide) ?_
    refine r_cVI 7 d_Van_van_22 lk_Van_74 vc_Van_refuse (ct_refuse (by omega)) rfl rfl rfl rfl ⟨Nat.le_of_ble_eq_true rfl, Nat.le_of_ble_eq_true rfl⟩ ⟨Nat.zero_le _, Nat.zero_le _⟩ (Nat.le_of_ble_eq_true rfl) (fun r22 s22 q22 => ?_)
    have q := q22
    refine q_iret d_Van_van_25 rfl ?_
    exact fin_no hI (by omega) hk VF.rf q (by unfold sp_van; (repeat (first | rw [if_pos (by omega)] | rw [if_neg (by omega)])); (try rfl))
  · refine r_iload_n 1 d_Van_van_5 rfl rfl ?_
    refine r_sipush d_Van_van_6 (by decide) ?_
    refine r_icmp_gt 19 d_Van_van_9 rfl (by omega) (by omega) (fun h9 => ?_) (fun h9 => ?_)
    · refine r_aload_n 0 d_Van_van_19 rfl rfl ?_
      refine r_bipush d_Van_van_20 (by decide) ?_
      refine r_cVI 7 d_Van_van_22 lk_Van_74 vc_Van_refuse (ct_refuse (by omega)) rfl rfl rfl rfl ⟨Nat.le_of_ble_eq_true rfl, Nat.le_of_ble_eq_true rfl⟩ ⟨Nat.zero_le _, Nat.zero_le _⟩ (Nat.le_of_ble_eq_true rfl) (fun r22 s22 q22 => ?_)
      have q := q22
      refine q_iret d_Van_van_25 rfl ?_
      exact fin_no hI (by omega) hk VF.rf q (by unfold sp_van; (repeat (first | rw [if_pos (by omega)] | rw [if_neg (by omega)])); (try rfl))
    · refine r_iload_n 2 d_Van_van_12 rfl rfl ?_
      refine r_cSI d_Van_van_13 lk_Van_128 sc_Van_isSpan (ct_isSpan (by omega)) rfl rfl ⟨Nat.le_of_ble_eq_true rfl, Nat.le_of_ble_eq_true rfl⟩ ⟨Nat.zero_le _, Nat.zero_le _⟩ (Nat.le_of_ble_eq_true rfl) (fun r13 s13 q13 => ?_)
      obtain ⟨q13, hs13⟩ := q13
      have hs13 := hs13.symm
      subst hs13
      refine r_if_ne 26 d_Van_van_16 rfl (by omega) (fun h16 => ?_) (fun h16 => ?_)
      · refine r_iload_n 3 d_Van_van_26 rfl rfl ?_
        refine r_if_lt 37 d_Van_van_27 rfl (by omega) (fun h27 => ?_) (fun h27 => ?_)
        · refine r_aload_n 0 d_Van_van_37 rfl rfl ?_
          refine r_bipush d_Van_van_38 (by decide) ?_
          refine r_cVI 7 d_Van_van_40 lk_Van_74 vc_Van_refuse (ct_refuse (by omega)) rfl rfl rfl rfl ⟨Nat.le_of_ble_eq_true rfl, Nat.le_of_ble_eq_true rfl⟩ ⟨Nat.zero_le _, Nat.zero_le _⟩ (Nat.le_of_ble_eq_true rfl) (fun r40 s40 q40 => ?_)
          have q := q40
          refine q_iret d_Van_van_43 rfl ?_
          exact fin_no hI (by omega) hk VF.rf q (by unfold sp_van; (repeat (first | rw [if_pos (by omega)] | rw [if_neg (by omega)])); (try rfl))
        · refine r_iload_n 3 d_Van_van_30 rfl rfl ?_
          refine r_sipush d_Van_van_31 (by decide) ?_
          refine r_icmp_le 44 d_Van_van_34 rfl (by omega) (by omega) (fun h34 => ?_) (fun h34 => ?_)
          · refine r_aload_n 0 d_Van_van_44 rfl rfl ?_
            refine r_getR 18 d_Van_van_45 fk_Van_42 rfl rfl rfl (by decide) ?_
            refine r_getI 0 d_Van_van_48 fk_Van_154 rfl rfl rfl ?_
            refine r_iconst d_Van_van_51 ?_
            rw [h1.2.1]
            refine r_icmp_lt 62 d_Van_van_52 rfl (by omega) (by omega) (fun h52 => ?_) (fun h52 => ?_)
            · refine r_aload_n 0 d_Van_van_62 rfl rfl ?_
              refine r_getR 18 d_Van_van_63 fk_Van_42 rfl rfl rfl (by decide) ?_
              refine r_iload_n 1 d_Van_van_66 rfl rfl ?_
              refine r_iload_n 3 d_Van_van_67 rfl rfl ?_
              refine r_cVI 6 d_Van_van_68 lk_Van_157 vc_Vans_add (ct_vadd h1.2.1 (by omega) (by omega)) rfl rfl rfl rfl ⟨Nat.le_of_ble_eq_true rfl, Nat.le_of_ble_eq_true rfl⟩ ⟨Nat.zero_le _, Nat.zero_le _⟩ (Nat.le_of_ble_eq_true rfl) (fun r68 s68 q68 => ?_)
              obtain ⟨e68, hs68⟩ := q68
              subst hs68 e68
              refine r_istore 4 d_Van_van_71 (by decide) rfl ?_
              refine r_aload_n 0 d_Van_van_73 rfl rfl ?_
              refine r_getR 18 d_Van_van_74 fk_Van_42 rfl rfl rfl (by decide) ?_
              refine r_iload 4 d_Van_van_77 rfl ?_
              refine r_iload_n 2 d_Van_van_79 rfl rfl ?_
              refine r_cVV 6 d_Van_van_80 lk_Van_160 vc_Vans_setShift (ct_setShift (by omega) (by omega) (by omega)) rfl rfl rfl rfl ⟨Nat.le_of_ble_eq_true rfl, Nat.le_of_ble_eq_true rfl⟩ ⟨Nat.zero_le _, Nat.zero_le _⟩ (Nat.le_of_ble_eq_true rfl) (fun s80 q80 => ?_)
              subst q80
              refine r_aload_n 0 d_Van_van_83 rfl rfl ?_
              refine r_getR 45 d_Van_van_84 fk_Van_52 rfl rfl rfl (by decide) ?_
              refine r_cVV 0 d_Van_van_87 lk_Van_99 vc_Past_forget ct_forget rfl rfl rfl rfl ⟨Nat.le_of_ble_eq_true rfl, Nat.le_of_ble_eq_true rfl⟩ ⟨Nat.zero_le _, Nat.zero_le _⟩ (Nat.le_of_ble_eq_true rfl) (fun s87 q87 => ?_)
              subst q87
              refine r_iload 4 d_Van_van_90 rfl ?_
              refine q_iret d_Van_van_92 rfl ?_
              have e : ∀ k i, (k < 8 ∨ 11 < k ∨ i ≠ g.nv) → wr (wr (wr (wr g.D 8 g.nv l) 11 g.nv f) 9 g.nv (sh / 1000)) 10 g.nv (sh % 1000) k i = g.D k i := fun k i q => by rw [wr_ne (by omega), wr_ne (by omega), wr_ne (by omega), wr_ne (by omega)]
              have hd : DC (wr σ 18 0 (g.nv + 1)) g.D g.ns (g.nv + 1) := ⟨by rw [wr_ne (by omega)]; exact h1.1, wr_eq, fun s s0 s1 => by rw [wr_ne (by omega), wr_ne (by omega), wr_ne (by omega), wr_ne (by omega), wr_ne (by omega), wr_ne (by omega), wr_ne (by omega)]; exact h1.2.2.1 s s0 s1, fun s s0 s1 => by rw [wr_ne (by omega)]; exact h1.2.2.2.1 s s0 s1, fun v v0 v1 => by rw [wr_ne (by omega), wr_ne (by omega), wr_ne (by omega), wr_ne (by omega)]; exact h1.2.2.2.2.1 v v0 v1, fun i i0 i1 => by rw [wr_ne (by omega)]; exact h1.2.2.2.2.2 i i0 i1⟩
              refine fin_eq (fin_data (D' := wr (wr (wr (wr g.D 8 g.nv l) 11 g.nv f) 9 g.nv (sh / 1000)) 10 g.nv (sh % 1000)) hI (show B ≤ B + 2 by omega) hk (fun c i q => by rw [wr_ne (by omega), wr_ne (by omega), wr_ne (by omega), wr_ne (by omega), wr_ne (by omega)]) ((((hd.both (by omega)).both (by omega)).both (by omega)).both (by omega)) ((hT.cg (fun i => e 12 i (by omega))).keep (fun c i q => by rw [wr_ne (by omega), wr_ne (by omega), wr_ne (by omega), wr_ne (by omega), wr_ne (by omega)])) (k1.van (by omega) (by omega) (by omega) (by omega)) ⟨k2.1, k2.2.1, fun v q => k2.2.2 v (by omega)⟩ (fun v v0 v1 => ?_)) (by unfold sp_van; (repeat (first | rw [if_pos (by omega)] | rw [if_neg (by omega)])); (try rfl))
              by_cases q : v = g.nv
              · rw [q, k2.2.2 g.nv (by omega) (by omega) (by omega)]; exact why_nil
              · rw [why_cg (D := g.D) (fun k t q0 q1 _ => by rw [wr_ne (by omega), wr_ne (by omega), wr_ne (by omega), wr_ne (by omega)]) (e 8 v (by omega)) (e 9 v (by omega)) (e 10 v (by omega)) (fun i => e 12 i (by omega))]
                exact k3 v v0 (by omega)
            · refine r_aload_n 0 d_Van_van_55 rfl rfl ?_
              refine r_bipush d_Van_van_56 (by decide) ?_
              refine r_cVI 7 d_Van_van_58 lk_Van_74 vc_Van_refuse (ct_refuse (by omega)) rfl rfl rfl rfl ⟨Nat.le_of_ble_eq_true rfl, Nat.le_of_ble_eq_true rfl⟩ ⟨Nat.zero_le _, Nat.zero_le _⟩ (Nat.le_of_ble_eq_true rfl) (fun r58 s58 q58 => ?_)
              have q := q58
              refine q_iret d_Van_van_61 rfl ?_
              exact fin_no hI (by omega) hk VF.rf q (by unfold sp_van; (repeat (first | rw [if_pos (by omega)] | rw [if_neg (by omega)])); (try rfl))
          · refine r_aload_n 0 d_Van_van_37 rfl rfl ?_
            refine r_bipush d_Van_van_38 (by decide) ?_
            refine r_cVI 7 d_Van_van_40 lk_Van_74 vc_Van_refuse (ct_refuse (by omega)) rfl rfl rfl rfl ⟨Nat.le_of_ble_eq_true rfl, Nat.le_of_ble_eq_true rfl⟩ ⟨Nat.zero_le _, Nat.zero_le _⟩ (Nat.le_of_ble_eq_true rfl) (fun r40 s40 q40 => ?_)
            have q := q40
            refine q_iret d_Van_van_43 rfl ?_
            exact fin_no hI (by omega) hk VF.rf q (by unfold sp_van; (repeat (first | rw [if_pos (by omega)] | rw [if_neg (by omega)])); (try rfl))
      · refine r_aload_n 0 d_Van_van_19 rfl rfl ?_
        refine r_bipush d_Van_van_20 (by decide) ?_
        refine r_cVI 7 d_Van_van_22 lk_Van_74 vc_Van_refuse (ct_refuse (by omega)) rfl rfl rfl rfl ⟨Nat.le_of_ble_eq_true rfl, Nat.le_of_ble_eq_true rfl⟩ ⟨Nat.zero_le _, Nat.zero_le _⟩ (Nat.le_of_ble_eq_true rfl) (fun r22 s22 q22 => ?_)
        have q := q22
        refine q_iret d_Van_van_25 rfl ?_
        exact fin_no hI (by omega) hk VF.rf q (by unfold sp_van; (repeat (first | rw [if_pos (by omega)] | rw [if_neg (by omega)])); (try rfl))
theorem cv_span {σ : sto} {g : G} {B s sp : Int} (hI : OI σ g B) (hB : B ≤ 3998) (hk : g.ok) (h_s : inR s) (h_sp : inR sp) : CI M_Van_span 14 [vR 0, vI s, vI sp] σ (PV (sp_span g s sp) σ B) := by
  obtain ⟨h1, hT, hQ, hU, h09, hrn, h010, hrf⟩ := id hI
  obtain ⟨k1, k2, k3, k4, k5, k6⟩ := id hk
  have hn := k1.1
  have hRV := k2.rv hn.1 hn.2.1
  refine ci_of [vR 0, vI s, vI sp, vU] fy_Van_span.1 rfl (Nat.le_of_ble_eq_true rfl) ?_
  refine r_aload_n 0 d_Van_span_0 rfl rfl ?_
  refine r_getR 9 d_Van_span_1 fk_Van_37 rfl rfl rfl (by decide) ?_
  refine r_iload_n 1 d_Van_span_4 rfl rfl ?_
  refine r_cVI 3 d_Van_span_5 lk_Van_114 vc_Stops_has (ct_hasS h1 k1 (by omega)) rfl rfl rfl rfl ⟨Nat.le_of_ble_eq_true rfl, Nat.le_of_ble_eq_true rfl⟩ ⟨Nat.zero_le _, Nat.zero_le _⟩ (Nat.le_of_ble_eq_true rfl) (fun r5 s5 q5 => ?_)
  obtain ⟨q5, hs5⟩ := q5
  have hs5 := hs5.symm
  subst hs5
  refine r_if_ne 18 d_Van_span_8 rfl (by omega) (fun h8 => ?_) (fun h8 => ?_)
  · have hat := h1.at (s := s) (by omega) (by omega)
    have hds := k1.2.1 s (by omega) (by omega)
    refine r_iload_n 2 d_Van_span_18 rfl rfl ?_
    refine r_cSI d_Van_span_19 lk_Van_128 sc_Van_isSpan (ct_isSpan (by omega)) rfl rfl ⟨Nat.le_of_ble_eq_true rfl, Nat.le_of_ble_eq_true rfl⟩ ⟨Nat.zero_le _, Nat.zero_le _⟩ (Nat.le_of_ble_eq_true rfl) (fun r19 s19 q19 => ?_)
    obtain ⟨q19, hs19⟩ := q19
    have hs19 := hs19.symm
    subst hs19
    refine r_if_ne 32 d_Van_span_22 rfl (by omega) (fun h22 => ?_) (fun h22 => ?_)
    · refine r_sipush d_Van_span_32 (by decide) ?_
      refine r_aload_n 0 d_Van_span_35 rfl rfl ?_
      refine r_getR 9 d_Van_span_36 fk_Van_37 rfl rfl rfl (by decide) ?_
      refine r_getR 12 d_Van_span_39 fk_Van_145 rfl rfl rfl (by decide) ?_
      refine r_iload_n 1 d_Van_span_42 rfl rfl ?_
      refine r_iald 12 d_Van_span_43 rfl rfl (by omega) (by omega) ?_
      rw [hat.2.2.1]
      refine r_imul d_Van_span_44 ?_
      refine r_aload_n 0 d_Van_span_45 rfl rfl ?_
      refine r_getR 9 d_Van_span_46 fk_Van_37 rfl rfl rfl (by decide) ?_
      refine r_getR 13 d_Van_span_49 fk_Van_148 rfl rfl rfl (by decide) ?_
      refine r_iload_n 1 d_Van_span_52 rfl rfl ?_
      refine r_iald 12 d_Van_span_53 rfl rfl (by omega) (by omega) ?_
      rw [hat.2.2.2.1]
      refine r_iadd d_Van_span_54 ?_
      refine r_istore_n 3 d_Van_span_55 rfl (by decide) rfl ?_
      refine r_aload_n 0 d_Van_span_56 rfl rfl ?_
      refine r_getR 9 d_Van_span_57 fk_Van_37 rfl rfl rfl (by decide) ?_
      refine r_iload_n 1 d_Van_span_60 rfl rfl ?_
      refine r_iload_n 2 d_Van_span_61 rfl rfl ?_
      refine r_cVV 3 d_Van_span_62 lk_Van_139 vc_Stops_setSpan (ct_setSpan (by omega) (by omega) (by omega)) rfl rfl rfl rfl ⟨Nat.le_of_ble_eq_true rfl, Nat.le_of_ble_eq_true rfl⟩ ⟨Nat.zero_le _, Nat.zero_le _⟩ (Nat.le_of_ble_eq_true rfl) (fun s62 q62 => ?_)
      subst q62
      have e : ∀ k i, k ≠ 2 → k ≠ 3 → (wr (wr g.D 2 s (sp / 1000)) 3 s (sp % 1000)) k i = g.D k i := fun k i q r => by rw [wr_ne (Or.inl r), wr_ne (Or.inl q)]
      have hC1 : DC (wr (wr σ 12 s (sp / 1000)) 13 s (sp % 1000)) (wr (wr g.D 2 s (sp / 1000)) 3 s (sp % 1000)) g.ns g.nv := (h1.both (by omega)).both (by omega)
      have hT1 : TC (wr (wr σ 12 s (sp / 1000)) 13 s (sp % 1000)) (wr (wr g.D 2 s (sp / 1000)) 3 s (sp % 1000)) B := (hT.cg (fun i => e 12 i (by omega) (by omega))).keep (fun c i q => by rw [wr_ne (by omega), wr_ne (by omega)])
      have hO1 : DOK (wr (wr g.D 2 s (sp / 1000)) 3 s (sp % 1000)) g.ns g.nv := k1.span (by omega)
      have hQ1 : PA (wr (wr σ 12 s (sp / 1000)) 13 s (sp % 1000)) 39 g.P := hQ.same (fun c i c0 c1 => by rw [wr_ne (by omega), wr_ne (by omega)])
      have hK1 : KF σ (wr (wr σ 12 s (sp / 1000)) 13 s (sp % 1000)) := fun c i q => by rw [wr_ne (by omega), wr_ne (by omega)]
      refine r_aload_n 0 d_Van_span_65 rfl rfl ?_
      refine r_getR 2 d_Van_span_66 fk_Van_25 rfl rfl rfl (by decide) ?_
      refine r_aload_n 0 d_Van_span_69 rfl rfl ?_
      refine r_getR 39 d_Van_span_70 fk_Van_46 rfl rfl rfl (by decide) ?_
      refine r_cVI 5 d_Van_span_73 lk_Van_92 vc_Trip_total (ct_total hC1 hO1 hT1 (by omega) pl39 hQ1 hRV) rfl rfl rfl rfl ⟨Nat.le_of_ble_eq_true rfl, Nat.le_of_ble_eq_true rfl⟩ ⟨Nat.zero_le _, Nat.zero_le _⟩ (Nat.le_of_ble_eq_true rfl) (fun r73 s73 q73 => ?_)
      obtain ⟨e7, hT2, hJ⟩ := q73
      have hin := fun h => tot_in hO1 hRV (show AF (wr (wr g.D 2 s (sp / 1000)) 3 s (sp % 1000)) g.nv g.P from h) g.nv hn.2.2.1 (Int.le_refl _)
      have hrr : -1 ≤ r73 ∧ r73 ≤ 60000 * g.nv := e7.elim (fun q => by have := hin q.1; omega) (fun q => by omega)
      have hC2 := hJ.dc hC1
      have hK2 := hK1.tr hJ.kf
      refine r_iconst d_Van_span_76 ?_
      refine r_icmp_ne 96 d_Van_span_77 rfl (by omega) (by omega) (fun h77 => ?_) (fun h77 => ?_)
      · refine r_aload_n 0 d_Van_span_96 rfl rfl ?_
        refine r_getR 45 d_Van_span_97 fk_Van_52 rfl rfl rfl (by decide) ?_
        refine r_cVV 0 d_Van_span_100 lk_Van_99 vc_Past_forget ct_forget rfl rfl rfl rfl ⟨Nat.le_of_ble_eq_true rfl, Nat.le_of_ble_eq_true rfl⟩ ⟨Nat.zero_le _, Nat.zero_le _⟩ (Nat.le_of_ble_eq_true rfl) (fun s100 q100 => ?_)
        subst q100
        refine r_iload_n 3 d_Van_span_103 rfl rfl ?_
        refine q_iret d_Van_span_104 rfl ?_
        have ea : AF (wr (wr g.D 2 s (sp / 1000)) 3 s (sp % 1000)) g.nv g.P := (e7.resolve_right (fun q => by omega)).1
        exact fin_eq (fin_data hI (show B ≤ B + 2 by omega) hk hK2 hC2 hT2 hO1 k2 ea) (by unfold sp_span; (repeat (first | rw [if_pos (by omega)] | rw [if_neg (by omega)])); (try rfl); unfold renew; rw [ifp_t ea])
      · refine r_aload_n 0 d_Van_span_80 rfl rfl ?_
        refine r_getR 9 d_Van_span_81 fk_Van_37 rfl rfl rfl (by decide) ?_
        refine r_iload_n 1 d_Van_span_84 rfl rfl ?_
        refine r_iload_n 3 d_Van_span_85 rfl rfl ?_
        refine r_cVV 3 d_Van_span_86 lk_Van_139 vc_Stops_setSpan (ct_setSpan (by omega) (by omega) (by omega)) rfl rfl rfl rfl ⟨Nat.le_of_ble_eq_true rfl, Nat.le_of_ble_eq_true rfl⟩ ⟨Nat.zero_le _, Nat.zero_le _⟩ (Nat.le_of_ble_eq_true rfl) (fun s86 q86 => ?_)
        subst q86
        have eb : ∀ D2 : sto, wr (wr (wr (wr g.D 2 s (sp / 1000)) 3 s (sp % 1000)) 2 s ((1000 * g.D 2 s + g.D 3 s) / 1000)) 3 s ((1000 * g.D 2 s + g.D 3 s) % 1000) = g.D := fun _ => by
          rw [show (1000 * g.D 2 s + g.D 3 s) / 1000 = g.D 2 s by omega, show (1000 * g.D 2 s + g.D 3 s) % 1000 = g.D 3 s by omega]
          funext k i
          by_cases q : i = s
          · by_cases q2 : k = 3
            · rw [q, q2, wr_eq]
            · rw [wr_ne (Or.inl q2)]
              by_cases q3 : k = 2
              · rw [q, q3, wr_eq]
              · rw [wr_ne (Or.inl q3)]; exact e k i q3 q2
          · rw [wr_ne (Or.inr q), wr_ne (Or.inr q), wr_ne (Or.inr q), wr_ne (Or.inr q)]
        have hC3 : DC (wr (wr s73 12 s ((1000 * g.D 2 s + g.D 3 s) / 1000)) 13 s ((1000 * g.D 2 s + g.D 3 s) % 1000)) g.D g.ns g.nv := by
          have := ((hC2.both (i := s) (v := (1000 * g.D 2 s + g.D 3 s) / 1000) (c := 12) (k := 2) (by omega)).both (i := s) (v := (1000 * g.D 2 s + g.D 3 s) % 1000) (c := 13) (k := 3) (by omega))
          rw [eb g.D] at this
          exact this
        have hI3 := hI.back (hK2.tr (fun c i q => by rw [wr_ne (by omega), wr_ne (by omega)])) hC3 ((hT2.cg (D' := g.D) (fun i => (e 12 i (by omega) (by omega)).symm)).keep (fun c i q => by rw [wr_ne (by omega), wr_ne (by omega)]))
        refine r_aload_n 0 d_Van_span_89 rfl rfl ?_
        refine r_bipush d_Van_span_90 (by decide) ?_
        refine r_cVI 7 d_Van_span_92 lk_Van_74 vc_Van_refuse (ct_refuse (by omega)) rfl rfl rfl rfl ⟨Nat.le_of_ble_eq_true rfl, Nat.le_of_ble_eq_true rfl⟩ ⟨Nat.zero_le _, Nat.zero_le _⟩ (Nat.le_of_ble_eq_true rfl) (fun r92 s92 q92 => ?_)
        have q := q92
        refine q_iret d_Van_span_95 rfl ?_
        have ea : ¬ AF (wr (wr g.D 2 s (sp / 1000)) 3 s (sp % 1000)) g.nv g.P := e7.elim (fun q => by have := hin q.1; omega) (fun q => q.1)
        exact fin_no hI3 (by omega) hk (hK2.vf.tr (fun c i q => by rw [wr_ne (by omega), wr_ne (by omega)])) q (by unfold sp_span; (repeat (first | rw [if_pos (by omega)] | rw [if_neg (by omega)])); (try rfl); unfold renew; rw [ifp_f ea])
    · refine r_aload_n 0 d_Van_span_25 rfl rfl ?_
      refine r_bipush d_Van_span_26 (by decide) ?_
      refine r_cVI 7 d_Van_span_28 lk_Van_74 vc_Van_refuse (ct_refuse (by omega)) rfl rfl rfl rfl ⟨Nat.le_of_ble_eq_true rfl, Nat.le_of_ble_eq_true rfl⟩ ⟨Nat.zero_le _, Nat.zero_le _⟩ (Nat.le_of_ble_eq_true rfl) (fun r28 s28 q28 => ?_)
      have q := q28
      refine q_iret d_Van_span_31 rfl ?_
      exact fin_no hI (by omega) hk VF.rf q (by unfold sp_span; (repeat (first | rw [if_pos (by omega)] | rw [if_neg (by omega)])); (try rfl))
  · refine r_aload_n 0 d_Van_span_11 rfl rfl ?_
    refine r_bipush d_Van_span_12 (by decide) ?_
    refine r_cVI 7 d_Van_span_14 lk_Van_74 vc_Van_refuse (ct_refuse (by omega)) rfl rfl rfl rfl ⟨Nat.le_of_ble_eq_true rfl, Nat.le_of_ble_eq_true rfl⟩ ⟨Nat.zero_le _, Nat.zero_le _⟩ (Nat.le_of_ble_eq_true rfl) (fun r14 s14 q14 => ?_)
    have q := q14
    refine q_iret d_Van_span_17 rfl ?_
    exact fin_no hI (by omega) hk VF.rf q (by unfold sp_span; (repeat (first | rw [if_pos (by omega)] | rw [if_neg (by omega)])); (try rfl))
theorem cv_shift {σ : sto} {g : G} {B v sp : Int} (hI : OI σ g B) (hB : B ≤ 3998) (hk : g.ok) (h_v : inR v) (h_sp : inR sp) : CI M_Van_shift 14 [vR 0, vI v, vI sp] σ (PV (sp_shift g v sp) σ B) := by
  obtain ⟨h1, hT, hQ, hU, h09, hrn, h010, hrf⟩ := id hI
  obtain ⟨k1, k2, k3, k4, k5, k6⟩ := id hk
  have hn := k1.1
  have hRV := k2.rv hn.1 hn.2.1
  refine ci_of [vR 0, vI v, vI sp, vU] fy_Van_shift.1 rfl (Nat.le_of_ble_eq_true rfl) ?_
  refine r_aload_n 0 d_Van_shift_0 rfl rfl ?_
  refine r_getR 18 d_Van_shift_1 fk_Van_42 rfl rfl rfl (by decide) ?_
  refine r_iload_n 1 d_Van_shift_4 rfl rfl ?_
  refine r_cVI 6 d_Van_shift_5 lk_Van_163 vc_Vans_has (ct_hasV h1 k1 (by omega)) rfl rfl rfl rfl ⟨Nat.le_of_ble_eq_true rfl, Nat.le_of_ble_eq_true rfl⟩ ⟨Nat.zero_le _, Nat.zero_le _⟩ (Nat.le_of_ble_eq_true rfl) (fun r5 s5 q5 => ?_)
  obtain ⟨q5, hs5⟩ := q5
  have hs5 := hs5.symm
  subst hs5
  refine r_if_ne 18 d_Van_shift_8 rfl (by omega) (fun h8 => ?_) (fun h8 => ?_)
  · have hat := h1.van (v := v) (by omega) (by omega)
    have hds := k1.2.2.2.1 v (by omega) (by omega)
    refine r_iload_n 2 d_Van_shift_18 rfl rfl ?_
    refine r_cSI d_Van_shift_19 lk_Van_128 sc_Van_isSpan (ct_isSpan (by omega)) rfl rfl ⟨Nat.le_of_ble_eq_true rfl, Nat.le_of_ble_eq_true rfl⟩ ⟨Nat.zero_le _, Nat.zero_le _⟩ (Nat.le_of_ble_eq_true rfl) (fun r19 s19 q19 => ?_)
    obtain ⟨q19, hs19⟩ := q19
    have hs19 := hs19.symm
    subst hs19
    refine r_if_ne 32 d_Van_shift_22 rfl (by omega) (fun h22 => ?_) (fun h22 => ?_)
    · refine r_sipush d_Van_shift_32 (by decide) ?_
      refine r_aload_n 0 d_Van_shift_35 rfl rfl ?_
      refine r_getR 18 d_Van_shift_36 fk_Van_42 rfl rfl rfl (by decide) ?_
      refine r_getR 20 d_Van_shift_39 fk_Van_164 rfl rfl rfl (by decide) ?_
      refine r_iload_n 1 d_Van_shift_42 rfl rfl ?_
      refine r_iald 3 d_Van_shift_43 rfl rfl (by omega) (by omega) ?_
      rw [hat.2.1]
      refine r_imul d_Van_shift_44 ?_
      refine r_aload_n 0 d_Van_shift_45 rfl rfl ?_
      refine r_getR 18 d_Van_shift_46 fk_Van_42 rfl rfl rfl (by decide) ?_
      refine r_getR 21 d_Van_shift_49 fk_Van_165 rfl rfl rfl (by decide) ?_
      refine r_iload_n 1 d_Van_shift_52 rfl rfl ?_
      refine r_iald 3 d_Van_shift_53 rfl rfl (by omega) (by omega) ?_
      rw [hat.2.2.1]
      refine r_iadd d_Van_shift_54 ?_
      refine r_istore_n 3 d_Van_shift_55 rfl (by decide) rfl ?_
      refine r_aload_n 0 d_Van_shift_56 rfl rfl ?_
      refine r_getR 18 d_Van_shift_57 fk_Van_42 rfl rfl rfl (by decide) ?_
      refine r_iload_n 1 d_Van_shift_60 rfl rfl ?_
      refine r_iload_n 2 d_Van_shift_61 rfl rfl ?_
      refine r_cVV 6 d_Van_shift_62 lk_Van_160 vc_Vans_setShift (ct_setShift (by omega) (by omega) (by omega)) rfl rfl rfl rfl ⟨Nat.le_of_ble_eq_true rfl, Nat.le_of_ble_eq_true rfl⟩ ⟨Nat.zero_le _, Nat.zero_le _⟩ (Nat.le_of_ble_eq_true rfl) (fun s62 q62 => ?_)
      subst q62
      have e : ∀ k i, k ≠ 9 → k ≠ 10 → (wr (wr g.D 9 v (sp / 1000)) 10 v (sp % 1000)) k i = g.D k i := fun k i q r => by rw [wr_ne (Or.inl r), wr_ne (Or.inl q)]
      have hC1 : DC (wr (wr σ 20 v (sp / 1000)) 21 v (sp % 1000)) (wr (wr g.D 9 v (sp / 1000)) 10 v (sp % 1000)) g.ns g.nv := (h1.both (by omega)).both (by omega)
      have hT1 : TC (wr (wr σ 20 v (sp / 1000)) 21 v (sp % 1000)) (wr (wr g.D 9 v (sp / 1000)) 10 v (sp % 1000)) B := (hT.cg (fun i => e 12 i (by omega) (by omega))).keep (fun c i q => by rw [wr_ne (by omega), wr_ne (by omega)])
      have hO1 : DOK (wr (wr g.D 9 v (sp / 1000)) 10 v (sp % 1000)) g.ns g.nv := k1.shift (by omega)
      have hQ1 : PA (wr (wr σ 20 v (sp / 1000)) 21 v (sp % 1000)) 39 g.P := hQ.same (fun c i c0 c1 => by rw [wr_ne (by omega), wr_ne (by omega)])
      have hK1 : KF σ (wr (wr σ 20 v (sp / 1000)) 21 v (sp % 1000)) := fun c i q => by rw [wr_ne (by omega), wr_ne (by omega)]
      refine r_aload_n 0 d_Van_shift_65 rfl rfl ?_
      refine r_getR 2 d_Van_shift_66 fk_Van_25 rfl rfl rfl (by decide) ?_
      refine r_aload_n 0 d_Van_shift_69 rfl rfl ?_
      refine r_getR 39 d_Van_shift_70 fk_Van_46 rfl rfl rfl (by decide) ?_
      refine r_cVI 5 d_Van_shift_73 lk_Van_92 vc_Trip_total (ct_total hC1 hO1 hT1 (by omega) pl39 hQ1 hRV) rfl rfl rfl rfl ⟨Nat.le_of_ble_eq_true rfl, Nat.le_of_ble_eq_true rfl⟩ ⟨Nat.zero_le _, Nat.zero_le _⟩ (Nat.le_of_ble_eq_true rfl) (fun r73 s73 q73 => ?_)
      obtain ⟨e7, hT2, hJ⟩ := q73
      have hin := fun h => tot_in hO1 hRV (show AF (wr (wr g.D 9 v (sp / 1000)) 10 v (sp % 1000)) g.nv g.P from h) g.nv hn.2.2.1 (Int.le_refl _)
      have hrr : -1 ≤ r73 ∧ r73 ≤ 60000 * g.nv := e7.elim (fun q => by have := hin q.1; omega) (fun q => by omega)
      have hC2 := hJ.dc hC1
      have hK2 := hK1.tr hJ.kf
      refine r_iconst d_Van_shift_76 ?_
      refine r_icmp_ne 96 d_Van_shift_77 rfl (by omega) (by omega) (fun h77 => ?_) (fun h77 => ?_)
      · refine r_aload_n 0 d_Van_shift_96 rfl rfl ?_
        refine r_getR 45 d_Van_shift_97 fk_Van_52 rfl rfl rfl (by decide) ?_
        refine r_cVV 0 d_Van_shift_100 lk_Van_99 vc_Past_forget ct_forget rfl rfl rfl rfl ⟨Nat.le_of_ble_eq_true rfl, Nat.le_of_ble_eq_true rfl⟩ ⟨Nat.zero_le _, Nat.zero_le _⟩ (Nat.le_of_ble_eq_true rfl) (fun s100 q100 => ?_)
        subst q100
        refine r_iload_n 3 d_Van_shift_103 rfl rfl ?_
        refine q_iret d_Van_shift_104 rfl ?_
        have ea : AF (wr (wr g.D 9 v (sp / 1000)) 10 v (sp % 1000)) g.nv g.P := (e7.resolve_right (fun q => by omega)).1
        exact fin_eq (fin_data hI (show B ≤ B + 2 by omega) hk hK2 hC2 hT2 hO1 k2 ea) (by unfold sp_shift; (repeat (first | rw [if_pos (by omega)] | rw [if_neg (by omega)])); (try rfl); unfold renew; rw [ifp_t ea])
      · refine r_aload_n 0 d_Van_shift_80 rfl rfl ?_
        refine r_getR 18 d_Van_shift_81 fk_Van_42 rfl rfl rfl (by decide) ?_
        refine r_iload_n 1 d_Van_shift_84 rfl rfl ?_
        refine r_iload_n 3 d_Van_shift_85 rfl rfl ?_
        refine r_cVV 6 d_Van_shift_86 lk_Van_160 vc_Vans_setShift (ct_setShift (by omega) (by omega) (by omega)) rfl rfl rfl rfl ⟨Nat.le_of_ble_eq_true rfl, Nat.le_of_ble_eq_true rfl⟩ ⟨Nat.zero_le _, Nat.zero_le _⟩ (Nat.le_of_ble_eq_true rfl) (fun s86 q86 => ?_)
        subst q86
        have eb : ∀ D2 : sto, wr (wr (wr (wr g.D 9 v (sp / 1000)) 10 v (sp % 1000)) 9 v ((1000 * g.D 9 v + g.D 10 v) / 1000)) 10 v ((1000 * g.D 9 v + g.D 10 v) % 1000) = g.D := fun _ => by
          rw [show (1000 * g.D 9 v + g.D 10 v) / 1000 = g.D 9 v by omega, show (1000 * g.D 9 v + g.D 10 v) % 1000 = g.D 10 v by omega]
          funext k i
          by_cases q : i = v
          · by_cases q2 : k = 10
            · rw [q, q2, wr_eq]
            · rw [wr_ne (Or.inl q2)]
              by_cases q3 : k = 9
              · rw [q, q3, wr_eq]
              · rw [wr_ne (Or.inl q3)]; exact e k i q3 q2
          · rw [wr_ne (Or.inr q), wr_ne (Or.inr q), wr_ne (Or.inr q), wr_ne (Or.inr q)]
        have hC3 : DC (wr (wr s73 20 v ((1000 * g.D 9 v + g.D 10 v) / 1000)) 21 v ((1000 * g.D 9 v + g.D 10 v) % 1000)) g.D g.ns g.nv := by
          have := ((hC2.both (i := v) (v := (1000 * g.D 9 v + g.D 10 v) / 1000) (c := 20) (k := 9) (by omega)).both (i := v) (v := (1000 * g.D 9 v + g.D 10 v) % 1000) (c := 21) (k := 10) (by omega))
          rw [eb g.D] at this
          exact this
        have hI3 := hI.back (hK2.tr (fun c i q => by rw [wr_ne (by omega), wr_ne (by omega)])) hC3 ((hT2.cg (D' := g.D) (fun i => (e 12 i (by omega) (by omega)).symm)).keep (fun c i q => by rw [wr_ne (by omega), wr_ne (by omega)]))
        refine r_aload_n 0 d_Van_shift_89 rfl rfl ?_
        refine r_bipush d_Van_shift_90 (by decide) ?_
        refine r_cVI 7 d_Van_shift_92 lk_Van_74 vc_Van_refuse (ct_refuse (by omega)) rfl rfl rfl rfl ⟨Nat.le_of_ble_eq_true rfl, Nat.le_of_ble_eq_true rfl⟩ ⟨Nat.zero_le _, Nat.zero_le _⟩ (Nat.le_of_ble_eq_true rfl) (fun r92 s92 q92 => ?_)
        have q := q92
        refine q_iret d_Van_shift_95 rfl ?_
        have ea : ¬ AF (wr (wr g.D 9 v (sp / 1000)) 10 v (sp % 1000)) g.nv g.P := e7.elim (fun q => by have := hin q.1; omega) (fun q => q.1)
        exact fin_no hI3 (by omega) hk (hK2.vf.tr (fun c i q => by rw [wr_ne (by omega), wr_ne (by omega)])) q (by unfold sp_shift; (repeat (first | rw [if_pos (by omega)] | rw [if_neg (by omega)])); (try rfl); unfold renew; rw [ifp_f ea])
    · refine r_aload_n 0 d_Van_shift_25 rfl rfl ?_
      refine r_bipush d_Van_shift_26 (by decide) ?_
      refine r_cVI 7 d_Van_shift_28 lk_Van_74 vc_Van_refuse (ct_refuse (by omega)) rfl rfl rfl rfl ⟨Nat.le_of_ble_eq_true rfl, Nat.le_of_ble_eq_true rfl⟩ ⟨Nat.zero_le _, Nat.zero_le _⟩ (Nat.le_of_ble_eq_true rfl) (fun r28 s28 q28 => ?_)
      have q := q28
      refine q_iret d_Van_shift_31 rfl ?_
      exact fin_no hI (by omega) hk VF.rf q (by unfold sp_shift; (repeat (first | rw [if_pos (by omega)] | rw [if_neg (by omega)])); (try rfl))
  · refine r_aload_n 0 d_Van_shift_11 rfl rfl ?_
    refine r_bipush d_Van_shift_12 (by decide) ?_
    refine r_cVI 7 d_Van_shift_14 lk_Van_74 vc_Van_refuse (ct_refuse (by omega)) rfl rfl rfl rfl ⟨Nat.le_of_ble_eq_true rfl, Nat.le_of_ble_eq_true rfl⟩ ⟨Nat.zero_le _, Nat.zero_le _⟩ (Nat.le_of_ble_eq_true rfl) (fun r14 s14 q14 => ?_)
    have q := q14
    refine q_iret d_Van_shift_17 rfl ?_
    exact fin_no hI (by omega) hk VF.rf q (by unfold sp_shift; (repeat (first | rw [if_pos (by omega)] | rw [if_neg (by omega)])); (try rfl))
