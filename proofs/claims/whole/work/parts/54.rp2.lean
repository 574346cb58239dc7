-- THE REFERENCE: its calls that change the plan (walks written by wip/whole/gen_rp2.py)
theorem rmv_perm {ns nv s : Int} {P : pln} (h : PO ns nv P) (hs : s ∈ al3 P) : (al3 P).Perm (s :: al3 (rmv1 P s)) := by
  obtain ⟨a, b, c, d, e, f, i, k⟩ := vanOf_yes h hs
  rw [rmv1_eq (P := P) (s := s) rfl (by omega)]
  obtain ⟨r, h1, h2⟩ := al3_up (P := P) a b
  have h3 := h1.trans ((List.Perm.append_right r (del_perm f i)).trans (List.Perm.cons _ (h2 _).symm))
  rw [k] at h3
  exact h3
theorem mem_rmv {ns nv s x : Int} {P : pln} (h : PO ns nv P) (hs : s ∈ al3 P) (hx : x ∈ al3 P) (hne : x ≠ s) : x ∈ al3 (rmv1 P s) := by
  rcases List.mem_cons.mp ((rmv_perm h hs).mem_iff.mp hx) with q | q
  · exact absurd q hne
  · exact q
theorem pair_in {D : sto} {ns nv s : Int} {P : pln} (hO : DOK D ns nv) (hP : PO ns nv P) (hA : AF D nv P) (hs : s ∈ al3 P) (hm : D 6 s ≠ -1) : D 6 s ∈ al3 P ∧ D 6 s ≠ s := by
  have hr := hP.2.1 s hs
  have hd := hO.2.1 s hr.1 hr.2
  have h2 := (hO.2.2.1 s hr.1 hr.2).1 (by omega)
  refine ⟨Classical.byContradiction (fun hno => ?_), fun e => by rw [e] at h2; omega⟩
  by_cases h1 : D 0 (D 6 s) = 2
  · obtain ⟨v, v0, v1, hv⟩ := mem_al3.mp hs
    have hvn : v < nv := by
      rcases Int.lt_or_le v nv with q | q
      · exact q
      · rw [hP.2.2 v q v0 v1] at hv; cases hv
    obtain ⟨i, i0, i1, i2⟩ := mem_gt.mp hv
    rcases why_0 (hA v v0 hvn) with e | ⟨e, g1, -⟩
    · omega
    · have := fst1_lt (p := pr1 D (P v)) (n := ln (P v)) i0 (by rw [g1]; exact i1)
      have := of_decide_eq_false this
      rw [i2] at this
      exact this (Or.inr ⟨by omega, by omega, fun q => hno (mem_al3.mpr ⟨v, v0, v1, q⟩)⟩)
  · have := pair_out hO hP hA (s := D 6 s) (by omega) hd.2.2.2.2.2.1.2 hno h1 (by rw [h2.1]; omega)
    rw [h2.1] at this
    exact this.2.2.2.2.2.1 hs
theorem van_in {P : pln} {s : Int} (h : 0 ≤ vanOf P s) : s ∈ al3 P := Classical.byContradiction (fun q => by have := vanOf_no.mpr q; omega)
theorem cr_put {σ : sto} {g : G} {s v i : Int} (hI : RI σ g) (hk : g.ok) (h_s : inR s) (h_v : inR v) (h_i : inR i) : CI M_Mod_put 14 [vR 169, vI s, vI v, vI i] σ (QM (sp_put g s v i) σ) := by
  obtain ⟨hQ, hE⟩ := id hI
  obtain ⟨hC, hU, h45, hrow, h33, hrf⟩ := id hE
  obtain ⟨k1, k2, k3, k4, k5, k6⟩ := id hk
  have hn := k1.1
  have hRV := k2.rv hn.1 hn.2.1
  refine ci_of [vR 169, vI s, vI v, vI i] fy_Mod_put.1 rfl (Nat.le_of_ble_eq_true rfl) ?_
  refine r_aload_n 0 d_Mod_put_0 rfl rfl ?_
  refine r_iload_n 1 d_Mod_put_1 rfl rfl ?_
  refine r_cVI 8 d_Mod_put_2 lk_Mod_148 vc_Mod_isStop (mt_isStop hC.1 (by omega) (by omega)) rfl rfl rfl rfl ⟨Nat.le_of_ble_eq_true rfl, Nat.le_of_ble_eq_true rfl⟩ ⟨Nat.zero_le _, Nat.zero_le _⟩ (Nat.le_of_ble_eq_true rfl) (fun r2 s2 q2 => ?_)
  obtain ⟨q2, hs2⟩ := q2
  have hs2 := hs2.symm
  subst hs2
  refine r_if_eq 32 d_Mod_put_5 rfl (by omega) (fun h5 => ?_) (fun h5 => ?_)
  · refine r_aload_n 0 d_Mod_put_32 rfl rfl ?_
    refine r_bipush d_Mod_put_33 (by decide) ?_
    refine r_cVI 8 d_Mod_put_35 lk_Mod_126 vc_Mod_no (mt_no (by omega)) rfl rfl rfl rfl ⟨Nat.le_of_ble_eq_true rfl, Nat.le_of_ble_eq_true rfl⟩ ⟨Nat.zero_le _, Nat.zero_le _⟩ (Nat.le_of_ble_eq_true rfl) (fun r35 s35 q35 => ?_)
    have q := q35
    refine q_iret d_Mod_put_38 rfl ?_
    exact qn_no hI MF.rf q (by unfold sp_put; (repeat (first | rw [if_pos (by omega)] | rw [if_neg (by omega)])); (try rfl))
  · refine r_aload_n 0 d_Mod_put_8 rfl rfl ?_
    refine r_iload_n 2 d_Mod_put_9 rfl rfl ?_
    refine r_cVI 8 d_Mod_put_10 lk_Mod_165 vc_Mod_isVan (mt_isVan hC.2.1 (by omega) (by omega)) rfl rfl rfl rfl ⟨Nat.le_of_ble_eq_true rfl, Nat.le_of_ble_eq_true rfl⟩ ⟨Nat.zero_le _, Nat.zero_le _⟩ (Nat.le_of_ble_eq_true rfl) (fun r10 s10 q10 => ?_)
    obtain ⟨q10, hs10⟩ := q10
    have hs10 := hs10.symm
    subst hs10
    refine r_if_eq 32 d_Mod_put_13 rfl (by omega) (fun h13 => ?_) (fun h13 => ?_)
    · refine r_aload_n 0 d_Mod_put_32 rfl rfl ?_
      refine r_bipush d_Mod_put_33 (by decide) ?_
      refine r_cVI 8 d_Mod_put_35 lk_Mod_126 vc_Mod_no (mt_no (by omega)) rfl rfl rfl rfl ⟨Nat.le_of_ble_eq_true rfl, Nat.le_of_ble_eq_true rfl⟩ ⟨Nat.zero_le _, Nat.zero_le _⟩ (Nat.le_of_ble_eq_true rfl) (fun r35 s35 q35 => ?_)
      have q := q35
      refine q_iret d_Mod_put_38 rfl ?_
      exact qn_no hI MF.rf q (by unfold sp_put; (repeat (first | rw [if_pos (by omega)] | rw [if_neg (by omega)])); (try rfl))
    · have hz := hQ.len (v := v) (by omega) (by omega)
      refine r_iload_n 3 d_Mod_put_16 rfl rfl ?_
      refine r_i2l d_Mod_put_17 (by omega) ?_
      refine r_lconst (z := 0) d_Mod_put_18 (by decide) ?_
      refine r_aload_n 0 d_Mod_put_19 rfl rfl ?_
      refine r_getR 184 d_Mod_put_20 fk_Mod_52 rfl rfl rfl (by decide) ?_
      refine r_iload_n 2 d_Mod_put_23 rfl rfl ?_
      refine r_iald 3 d_Mod_put_24 rfl rfl (by omega) (by omega) ?_
      rw [hz.1]
      refine r_i2l d_Mod_put_25 (by omega) ?_
      refine r_cSI d_Mod_put_26 lk_Mod_122 sc_Mod_isIn (mt_isIn (by omega) (by omega) (by omega)) rfl rfl ⟨Nat.le_of_ble_eq_true rfl, Nat.le_of_ble_eq_true rfl⟩ ⟨Nat.zero_le _, Nat.zero_le _⟩ (Nat.le_of_ble_eq_true rfl) (fun r26 s26 q26 => ?_)
      obtain ⟨q26, hs26⟩ := q26
      have hs26 := hs26.symm
      subst hs26
      refine r_if_ne 39 d_Mod_put_29 rfl (by omega) (fun h29 => ?_) (fun h29 => ?_)
      · refine r_aload_n 0 d_Mod_put_39 rfl rfl ?_
        refine r_iload_n 1 d_Mod_put_40 rfl rfl ?_
        refine r_cVP 8 d_Mod_put_41 lk_Mod_156 vc_Mod_vanOf (mt_vanOf hC ⟨hn.2.2.1, hn.2.2.2⟩ hQ k2 (by omega)) rfl rfl rfl rfl ⟨Nat.le_of_ble_eq_true rfl, Nat.le_of_ble_eq_true rfl⟩ ⟨Nat.zero_le _, Nat.zero_le _⟩ (Nat.le_of_ble_eq_true rfl) ?_
        refine r_if_lt 54 d_Mod_put_44 rfl (by have := vanOf_in g.P (s); omega) (fun h44 => ?_) (fun h44 => ?_)
        · have hvo := vanOf_in g.P s
          have hs : s ∉ al3 g.P := vanOf_no.mp (by omega)
          have ro := row_ok k1 k2 (v := v) (i := i) (by omega) (by omega) (by omega) (by omega) (by omega) (by omega) hs
          refine r_aload_n 0 d_Mod_put_54 rfl rfl ?_
          refine r_aload_n 0 d_Mod_put_55 rfl rfl ?_
          refine r_getR 186 d_Mod_put_56 fk_Mod_58 rfl rfl rfl (by decide) ?_
          refine r_iconst d_Mod_put_59 ?_
          refine r_cVV 8 d_Mod_put_60 lk_Mod_231 vc_Mod_keeps (mt_keeps (n := 39) rfl rfl (Int.le_refl _) (by omega) (by omega) (by omega)) rfl rfl rfl rfl ⟨Nat.le_of_ble_eq_true rfl, Nat.le_of_ble_eq_true rfl⟩ ⟨Nat.zero_le _, Nat.zero_le _⟩ (Nat.le_of_ble_eq_true rfl) (fun s60 q60 => ?_)
          obtain ⟨t1, t2, t3⟩ := q60
          have hA1 : AP s60 186 0 g.P := AP.of hQ t1 t2
          have hQ1 := hQ.keep (σ' := s60) (fun c i q => t3 c i (by omega))
          have hE1 := hE.keep (σ' := s60) (fun c i q => t3 c i (by omega))
          have hF1 : MF σ s60 := fun c i q => t3 c i (by omega)
          refine r_aload_n 0 d_Mod_put_63 rfl rfl ?_
          refine r_iload_n 1 d_Mod_put_64 rfl rfl ?_
          refine r_iload_n 2 d_Mod_put_65 rfl rfl ?_
          refine r_iload_n 3 d_Mod_put_66 rfl rfl ?_
          refine r_cVV 8 d_Mod_put_67 lk_Mod_224 vc_Mod_puts (mt_puts hQ1 (by omega) (by omega) (by omega) (by omega) ro.2.2.2 (by omega) (by omega)) rfl rfl rfl rfl ⟨Nat.le_of_ble_eq_true rfl, Nat.le_of_ble_eq_true rfl⟩ ⟨Nat.zero_le _, Nat.zero_le _⟩ (Nat.le_of_ble_eq_true rfl) (fun s67 q67 => ?_)
          obtain ⟨b1, b2⟩ := q67
          have hE2 := b2.re hE1
          have hA2 := b2.ap (by omega) hA1
          have hF2 := hF1.tr b2.mf
          refine r_aload_n 0 d_Mod_put_70 rfl rfl ?_
          refine r_cVI 8 d_Mod_put_71 lk_Mod_234 vc_Mod_settles (mt_settles hk hE2 hA2 b1 ro.1 hF2) rfl rfl rfl rfl ⟨Nat.le_of_ble_eq_true rfl, Nat.le_of_ble_eq_true rfl⟩ ⟨Nat.zero_le _, Nat.zero_le _⟩ (Nat.le_of_ble_eq_true rfl) (fun r71 s71 q71 => ?_)
          refine q_iret d_Mod_put_74 rfl ?_
          exact qn_eq q71 (by unfold sp_put; (repeat (first | rw [if_pos (by omega)] | rw [if_neg (by omega)])); (try rfl))
        · have hvo := vanOf_in g.P s
          refine r_aload_n 0 d_Mod_put_47 rfl rfl ?_
          refine r_bipush d_Mod_put_48 (by decide) ?_
          refine r_cVI 8 d_Mod_put_50 lk_Mod_126 vc_Mod_no (mt_no (by omega)) rfl rfl rfl rfl ⟨Nat.le_of_ble_eq_true rfl, Nat.le_of_ble_eq_true rfl⟩ ⟨Nat.zero_le _, Nat.zero_le _⟩ (Nat.le_of_ble_eq_true rfl) (fun r50 s50 q50 => ?_)
          have q := q50
          refine q_iret d_Mod_put_53 rfl ?_
          exact qn_no hI MF.rf q (by unfold sp_put; (repeat (first | rw [if_pos (by omega)] | rw [if_neg (by omega)])); (try rfl))
      · refine r_aload_n 0 d_Mod_put_32 rfl rfl ?_
        refine r_bipush d_Mod_put_33 (by decide) ?_
        refine r_cVI 8 d_Mod_put_35 lk_Mod_126 vc_Mod_no (mt_no (by omega)) rfl rfl rfl rfl ⟨Nat.le_of_ble_eq_true rfl, Nat.le_of_ble_eq_true rfl⟩ ⟨Nat.zero_le _, Nat.zero_le _⟩ (Nat.le_of_ble_eq_true rfl) (fun r35 s35 q35 => ?_)
        have q := q35
        refine q_iret d_Mod_put_38 rfl ?_
        exact qn_no hI MF.rf q (by unfold sp_put; (repeat (first | rw [if_pos (by omega)] | rw [if_neg (by omega)])); (try rfl))
theorem cr_why {σ : sto} {g : G} {s v i : Int} (hI : RI σ g) (hk : g.ok) (h_s : inR s) (h_v : inR v) (h_i : inR i) : CI M_Mod_why 14 [vR 169, vI s, vI v, vI i] σ (QM (sp_why g s v i) σ) := by
  obtain ⟨hQ, hE⟩ := id hI
  obtain ⟨hC, hU, h45, hrow, h33, hrf⟩ := id hE
  obtain ⟨k1, k2, k3, k4, k5, k6⟩ := id hk
  have hn := k1.1
  have hRV := k2.rv hn.1 hn.2.1
  refine ci_of [vR 169, vI s, vI v, vI i, vU] fy_Mod_why.1 rfl (Nat.le_of_ble_eq_true rfl) ?_
  refine r_aload_n 0 d_Mod_why_0 rfl rfl ?_
  refine r_iload_n 1 d_Mod_why_1 rfl rfl ?_
  refine r_cVI 8 d_Mod_why_2 lk_Mod_148 vc_Mod_isStop (mt_isStop hC.1 (by omega) (by omega)) rfl rfl rfl rfl ⟨Nat.le_of_ble_eq_true rfl, Nat.le_of_ble_eq_true rfl⟩ ⟨Nat.zero_le _, Nat.zero_le _⟩ (Nat.le_of_ble_eq_true rfl) (fun r2 s2 q2 => ?_)
  obtain ⟨q2, hs2⟩ := q2
  have hs2 := hs2.symm
  subst hs2
  refine r_if_eq 32 d_Mod_why_5 rfl (by omega) (fun h5 => ?_) (fun h5 => ?_)
  · refine r_aload_n 0 d_Mod_why_32 rfl rfl ?_
    refine r_bipush d_Mod_why_33 (by decide) ?_
    refine r_cVI 8 d_Mod_why_35 lk_Mod_126 vc_Mod_no (mt_no (by omega)) rfl rfl rfl rfl ⟨Nat.le_of_ble_eq_true rfl, Nat.le_of_ble_eq_true rfl⟩ ⟨Nat.zero_le _, Nat.zero_le _⟩ (Nat.le_of_ble_eq_true rfl) (fun r35 s35 q35 => ?_)
    have q := q35
    refine q_iret d_Mod_why_38 rfl ?_
    exact qn_no hI MF.rf q (by unfold sp_why; (repeat (first | rw [if_pos (by omega)] | rw [if_neg (by omega)])); (try rfl))
  · refine r_aload_n 0 d_Mod_why_8 rfl rfl ?_
    refine r_iload_n 2 d_Mod_why_9 rfl rfl ?_
    refine r_cVI 8 d_Mod_why_10 lk_Mod_165 vc_Mod_isVan (mt_isVan hC.2.1 (by omega) (by omega)) rfl rfl rfl rfl ⟨Nat.le_of_ble_eq_true rfl, Nat.le_of_ble_eq_true rfl⟩ ⟨Nat.zero_le _, Nat.zero_le _⟩ (Nat.le_of_ble_eq_true rfl) (fun r10 s10 q10 => ?_)
    obtain ⟨q10, hs10⟩ := q10
    have hs10 := hs10.symm
    subst hs10
    refine r_if_eq 32 d_Mod_why_13 rfl (by omega) (fun h13 => ?_) (fun h13 => ?_)
    · refine r_aload_n 0 d_Mod_why_32 rfl rfl ?_
      refine r_bipush d_Mod_why_33 (by decide) ?_
      refine r_cVI 8 d_Mod_why_35 lk_Mod_126 vc_Mod_no (mt_no (by omega)) rfl rfl rfl rfl ⟨Nat.le_of_ble_eq_true rfl, Nat.le_of_ble_eq_true rfl⟩ ⟨Nat.zero_le _, Nat.zero_le _⟩ (Nat.le_of_ble_eq_true rfl) (fun r35 s35 q35 => ?_)
      have q := q35
      refine q_iret d_Mod_why_38 rfl ?_
      exact qn_no hI MF.rf q (by unfold sp_why; (repeat (first | rw [if_pos (by omega)] | rw [if_neg (by omega)])); (try rfl))
    · have hz := hQ.len (v := v) (by omega) (by omega)
      refine r_iload_n 3 d_Mod_why_16 rfl rfl ?_
      refine r_i2l d_Mod_why_17 (by omega) ?_
      refine r_lconst (z := 0) d_Mod_why_18 (by decide) ?_
      refine r_aload_n 0 d_Mod_why_19 rfl rfl ?_
      refine r_getR 184 d_Mod_why_20 fk_Mod_52 rfl rfl rfl (by decide) ?_
      refine r_iload_n 2 d_Mod_why_23 rfl rfl ?_
      refine r_iald 3 d_Mod_why_24 rfl rfl (by omega) (by omega) ?_
      rw [hz.1]
      refine r_i2l d_Mod_why_25 (by omega) ?_
      refine r_cSI d_Mod_why_26 lk_Mod_122 sc_Mod_isIn (mt_isIn (by omega) (by omega) (by omega)) rfl rfl ⟨Nat.le_of_ble_eq_true rfl, Nat.le_of_ble_eq_true rfl⟩ ⟨Nat.zero_le _, Nat.zero_le _⟩ (Nat.le_of_ble_eq_true rfl) (fun r26 s26 q26 => ?_)
      obtain ⟨q26, hs26⟩ := q26
      have hs26 := hs26.symm
      subst hs26
      refine r_if_ne 39 d_Mod_why_29 rfl (by omega) (fun h29 => ?_) (fun h29 => ?_)
      · refine r_aload_n 0 d_Mod_why_39 rfl rfl ?_
        refine r_iload_n 1 d_Mod_why_40 rfl rfl ?_
        refine r_cVP 8 d_Mod_why_41 lk_Mod_156 vc_Mod_vanOf (mt_vanOf hC ⟨hn.2.2.1, hn.2.2.2⟩ hQ k2 (by omega)) rfl rfl rfl rfl ⟨Nat.le_of_ble_eq_true rfl, Nat.le_of_ble_eq_true rfl⟩ ⟨Nat.zero_le _, Nat.zero_le _⟩ (Nat.le_of_ble_eq_true rfl) ?_
        refine r_if_lt 54 d_Mod_why_44 rfl (by have := vanOf_in g.P (s); omega) (fun h44 => ?_) (fun h44 => ?_)
        · have hvo := vanOf_in g.P s
          have hs : s ∉ al3 g.P := vanOf_no.mp (by omega)
          have ro := row_ok k1 k2 (v := v) (i := i) (by omega) (by omega) (by omega) (by omega) (by omega) (by omega) hs
          have rr : RV g.ns (up g.P v (insA (g.P v) i s) v) := by rw [up_eq]; exact ro.2.2.1
          have hin : s ∈ al3 (up g.P v (insA (g.P v) i s)) := (ins_mem (by omega) (by omega) (by omega) (by omega)).mpr (Or.inl rfl)
          have hri := rmv_ins (P := g.P) (v := v) (i := i) (s := s) (by omega) (by omega) (by omega) (by omega) hs
          refine r_aload_n 0 d_Mod_why_54 rfl rfl ?_
          refine r_iload_n 1 d_Mod_why_55 rfl rfl ?_
          refine r_iload_n 2 d_Mod_why_56 rfl rfl ?_
          refine r_iload_n 3 d_Mod_why_57 rfl rfl ?_
          refine r_cVV 8 d_Mod_why_58 lk_Mod_224 vc_Mod_puts (mt_puts hQ (by omega) (by omega) (by omega) (by omega) ro.2.2.2 (by omega) (by omega)) rfl rfl rfl rfl ⟨Nat.le_of_ble_eq_true rfl, Nat.le_of_ble_eq_true rfl⟩ ⟨Nat.zero_le _, Nat.zero_le _⟩ (Nat.le_of_ble_eq_true rfl) (fun s58 q58 => ?_)
          obtain ⟨b1, b2⟩ := q58
          refine r_aload_n 0 d_Mod_why_61 rfl rfl ?_
          refine r_iload_n 2 d_Mod_why_62 rfl rfl ?_
          refine r_cVI 8 d_Mod_why_63 lk_Mod_201 vc_Mod_fits (mt_fits (b2.dr hC) k1 b1 (by omega) (by omega) rr) rfl rfl rfl rfl ⟨Nat.le_of_ble_eq_true rfl, Nat.le_of_ble_eq_true rfl⟩ ⟨Nat.zero_le _, Nat.zero_le _⟩ (Nat.le_of_ble_eq_true rfl) (fun r63 s63 q63 => ?_)
          obtain ⟨-, e30, e31, qR⟩ := q63
          rw [up_eq] at e30 e31
          refine r_istore 4 d_Mod_why_66 (by decide) rfl ?_
          refine r_aload_n 0 d_Mod_why_68 rfl rfl ?_
          refine r_iload_n 1 d_Mod_why_69 rfl rfl ?_
          refine r_cVV 8 d_Mod_why_70 lk_Mod_228 vc_Mod_takesOut (mt_takesOut (qR.dr (b2.dr hC)) ⟨hn.2.2.1, hn.2.2.2⟩ (qR.ra b1) ro.1 (by omega) hin) rfl rfl rfl rfl ⟨Nat.le_of_ble_eq_true rfl, Nat.le_of_ble_eq_true rfl⟩ ⟨Nat.zero_le _, Nat.zero_le _⟩ (Nat.le_of_ble_eq_true rfl) (fun s70 q70 => ?_)
          obtain ⟨c1, c2⟩ := q70
          rw [hri.2.2] at c1
          have hE3 := c2.re (qR.re (b2.re hE))
          refine r_aload_n 0 d_Mod_why_73 rfl rfl ?_
          refine r_aload_n 0 d_Mod_why_74 rfl rfl ?_
          refine r_getI 31 d_Mod_why_75 fk_Mod_174 rfl rfl rfl ?_
          rw [c2 169 31 (by omega) (by omega), e31]
          refine r_putI 33 d_Mod_why_78 fk_Mod_89 rfl rfl rfl (Or.inl rfl) ?_
          refine r_aload_n 0 d_Mod_why_81 rfl rfl ?_
          refine r_getI 30 d_Mod_why_82 fk_Mod_171 rfl rfl rfl ?_
          rw [wr_ne (by omega), c2 169 30 (by omega) (by omega), e30]
          refine q_iret d_Mod_why_85 rfl ?_
          refine qn_ok (g' := g.told (whrOf g.D v (insA (g.P v) i s))) ⟨c1.keep (fun c i q => wr_ne (by omega)), ?_⟩ (((b2.mf.tr qR.mf).tr c2.mf).tr (fun c i q => wr_ne (by omega))) (by unfold sp_why; (repeat (first | rw [if_pos (by omega)] | rw [if_neg (by omega)])); (try rfl))
          obtain ⟨z1, z2, z3, z4, z5, z6⟩ := hE3
          exact ⟨z1.keep (fun c i q => wr_ne (by omega)), z2.keep (wr_ne (by omega)) (fun i => wr_ne (by omega)), by rw [wr_ne (by omega)]; exact z3, fun i i0 i1 => by rw [wr_ne (by omega)]; exact z4 i i0 i1, wr_eq, fun k k0 k1 => by rw [wr_ne (by omega)]; exact z6 k k0 k1⟩
        · have hvo := vanOf_in g.P s
          refine r_aload_n 0 d_Mod_why_47 rfl rfl ?_
          refine r_bipush d_Mod_why_48 (by decide) ?_
          refine r_cVI 8 d_Mod_why_50 lk_Mod_126 vc_Mod_no (mt_no (by omega)) rfl rfl rfl rfl ⟨Nat.le_of_ble_eq_true rfl, Nat.le_of_ble_eq_true rfl⟩ ⟨Nat.zero_le _, Nat.zero_le _⟩ (Nat.le_of_ble_eq_true rfl) (fun r50 s50 q50 => ?_)
          have q := q50
          refine q_iret d_Mod_why_53 rfl ?_
          exact qn_no hI MF.rf q (by unfold sp_why; (repeat (first | rw [if_pos (by omega)] | rw [if_neg (by omega)])); (try rfl))
      · refine r_aload_n 0 d_Mod_why_32 rfl rfl ?_
        refine r_bipush d_Mod_why_33 (by decide) ?_
        refine r_cVI 8 d_Mod_why_35 lk_Mod_126 vc_Mod_no (mt_no (by omega)) rfl rfl rfl rfl ⟨Nat.le_of_ble_eq_true rfl, Nat.le_of_ble_eq_true rfl⟩ ⟨Nat.zero_le _, Nat.zero_le _⟩ (Nat.le_of_ble_eq_true rfl) (fun r35 s35 q35 => ?_)
        have q := q35
        refine q_iret d_Mod_why_38 rfl ?_
        exact qn_no hI MF.rf q (by unfold sp_why; (repeat (first | rw [if_pos (by omega)] | rw [if_neg (by omega)])); (try rfl))
theorem cr_pair {σ : sto} {g : G} {s v i j : Int} (hI : RI σ g) (hk : g.ok) (h_s : inR s) (h_v : inR v) (h_i : inR i) (h_j : inR j) : CI M_Mod_pair 14 [vR 169, vI s, vI v, vI i, vI j] σ (QM (sp_pair g s v i j) σ) := by
  obtain ⟨hQ, hE⟩ := id hI
  obtain ⟨hC, hU, h45, hrow, h33, hrf⟩ := id hE
  obtain ⟨k1, k2, k3, k4, k5, k6⟩ := id hk
  have hn := k1.1
  have hRV := k2.rv hn.1 hn.2.1
  refine ci_of [vR 169, vI s, vI v, vI i, vI j] fy_Mod_pair.1 rfl (Nat.le_of_ble_eq_true rfl) ?_
  refine r_aload_n 0 d_Mod_pair_0 rfl rfl ?_
  refine r_iload_n 1 d_Mod_pair_1 rfl rfl ?_
  refine r_cVI 8 d_Mod_pair_2 lk_Mod_148 vc_Mod_isStop (mt_isStop hC.1 (by omega) (by omega)) rfl rfl rfl rfl ⟨Nat.le_of_ble_eq_true rfl, Nat.le_of_ble_eq_true rfl⟩ ⟨Nat.zero_le _, Nat.zero_le _⟩ (Nat.le_of_ble_eq_true rfl) (fun r2 s2 q2 => ?_)
  obtain ⟨q2, hs2⟩ := q2
  have hs2 := hs2.symm
  subst hs2
  refine r_if_eq 16 d_Mod_pair_5 rfl (by omega) (fun h5 => ?_) (fun h5 => ?_)
  · refine r_aload_n 0 d_Mod_pair_16 rfl rfl ?_
    refine r_bipush d_Mod_pair_17 (by decide) ?_
    refine r_cVI 8 d_Mod_pair_19 lk_Mod_126 vc_Mod_no (mt_no (by omega)) rfl rfl rfl rfl ⟨Nat.le_of_ble_eq_true rfl, Nat.le_of_ble_eq_true rfl⟩ ⟨Nat.zero_le _, Nat.zero_le _⟩ (Nat.le_of_ble_eq_true rfl) (fun r19 s19 q19 => ?_)
    have q := q19
    refine q_iret d_Mod_pair_22 rfl ?_
    exact qn_no hI MF.rf q (by unfold sp_pair; (repeat (first | rw [if_pos (by omega)] | rw [if_neg (by omega)])); (try rfl))
  · refine r_aload_n 0 d_Mod_pair_8 rfl rfl ?_
    refine r_iload_n 2 d_Mod_pair_9 rfl rfl ?_
    refine r_cVI 8 d_Mod_pair_10 lk_Mod_165 vc_Mod_isVan (mt_isVan hC.2.1 (by omega) (by omega)) rfl rfl rfl rfl ⟨Nat.le_of_ble_eq_true rfl, Nat.le_of_ble_eq_true rfl⟩ ⟨Nat.zero_le _, Nat.zero_le _⟩ (Nat.le_of_ble_eq_true rfl) (fun r10 s10 q10 => ?_)
    obtain ⟨q10, hs10⟩ := q10
    have hs10 := hs10.symm
    subst hs10
    refine r_if_ne 23 d_Mod_pair_13 rfl (by omega) (fun h13 => ?_) (fun h13 => ?_)
    · have hz := hQ.len (v := v) (by omega) (by omega)
      have hat := hC.at (s := s) (by omega) (by omega)
      have hds := k1.2.1 s (by omega) (by omega)
      refine r_aload_n 0 d_Mod_pair_23 rfl rfl ?_
      refine r_getR 171 d_Mod_pair_24 fk_Mod_13 rfl rfl rfl (by decide) ?_
      refine r_iload_n 1 d_Mod_pair_27 rfl rfl ?_
      refine r_iald 12 d_Mod_pair_28 rfl rfl (by omega) (by omega) ?_
      rw [hat.1]
      refine r_iconst d_Mod_pair_29 ?_
      refine r_icmp_eq 40 d_Mod_pair_30 rfl (by omega) (by omega) (fun h30 => ?_) (fun h30 => ?_)
      · refine r_aload_n 0 d_Mod_pair_40 rfl rfl ?_
        refine r_getR 177 d_Mod_pair_41 fk_Mod_31 rfl rfl rfl (by decide) ?_
        refine r_iload_n 1 d_Mod_pair_44 rfl rfl ?_
        refine r_iald 12 d_Mod_pair_45 rfl rfl (by omega) (by omega) ?_
        rw [hat.2.2.2.2.2.1]
        refine r_if_ge 56 d_Mod_pair_46 rfl (by omega) (fun h46 => ?_) (fun h46 => ?_)
        · refine r_iload_n 3 d_Mod_pair_56 rfl rfl ?_
          refine r_i2l d_Mod_pair_57 (by omega) ?_
          refine r_lconst (z := 0) d_Mod_pair_58 (by decide) ?_
          refine r_aload_n 0 d_Mod_pair_59 rfl rfl ?_
          refine r_getR 184 d_Mod_pair_60 fk_Mod_52 rfl rfl rfl (by decide) ?_
          refine r_iload_n 2 d_Mod_pair_63 rfl rfl ?_
          refine r_iald 3 d_Mod_pair_64 rfl rfl (by omega) (by omega) ?_
          rw [hz.1]
          refine r_i2l d_Mod_pair_65 (by omega) ?_
          refine r_cSI d_Mod_pair_66 lk_Mod_122 sc_Mod_isIn (mt_isIn (by omega) (by omega) (by omega)) rfl rfl ⟨Nat.le_of_ble_eq_true rfl, Nat.le_of_ble_eq_true rfl⟩ ⟨Nat.zero_le _, Nat.zero_le _⟩ (Nat.le_of_ble_eq_true rfl) (fun r66 s66 q66 => ?_)
          obtain ⟨q66, hs66⟩ := q66
          have hs66 := hs66.symm
          subst hs66
          refine r_if_eq 91 d_Mod_pair_69 rfl (by omega) (fun h69 => ?_) (fun h69 => ?_)
          · refine r_aload_n 0 d_Mod_pair_91 rfl rfl ?_
            refine r_bipush d_Mod_pair_92 (by decide) ?_
            refine r_cVI 8 d_Mod_pair_94 lk_Mod_126 vc_Mod_no (mt_no (by omega)) rfl rfl rfl rfl ⟨Nat.le_of_ble_eq_true rfl, Nat.le_of_ble_eq_true rfl⟩ ⟨Nat.zero_le _, Nat.zero_le _⟩ (Nat.le_of_ble_eq_true rfl) (fun r94 s94 q94 => ?_)
            have q := q94
            refine q_iret d_Mod_pair_97 rfl ?_
            exact qn_no hI MF.rf q (by unfold sp_pair; (repeat (first | rw [if_pos (by omega)] | rw [if_neg (by omega)])); (try rfl))
          · refine r_iload 4 d_Mod_pair_72 rfl ?_
            refine r_i2l d_Mod_pair_74 (by omega) ?_
            refine r_lconst (z := 0) d_Mod_pair_75 (by decide) ?_
            refine r_aload_n 0 d_Mod_pair_76 rfl rfl ?_
            refine r_getR 184 d_Mod_pair_77 fk_Mod_52 rfl rfl rfl (by decide) ?_
            refine r_iload_n 2 d_Mod_pair_80 rfl rfl ?_
            refine r_iald 3 d_Mod_pair_81 rfl rfl (by omega) (by omega) ?_
            rw [hz.1]
            refine r_iconst d_Mod_pair_82 ?_
            refine r_iadd d_Mod_pair_83 ?_
            refine r_i2l d_Mod_pair_84 (by omega) ?_
            refine r_cSI d_Mod_pair_85 lk_Mod_122 sc_Mod_isIn (mt_isIn (by omega) (by omega) (by omega)) rfl rfl ⟨Nat.le_of_ble_eq_true rfl, Nat.le_of_ble_eq_true rfl⟩ ⟨Nat.zero_le _, Nat.zero_le _⟩ (Nat.le_of_ble_eq_true rfl) (fun r85 s85 q85 => ?_)
            obtain ⟨q85, hs85⟩ := q85
            have hs85 := hs85.symm
            subst hs85
            refine r_if_ne 98 d_Mod_pair_88 rfl (by omega) (fun h88 => ?_) (fun h88 => ?_)
            · refine r_aload_n 0 d_Mod_pair_98 rfl rfl ?_
              refine r_iload_n 1 d_Mod_pair_99 rfl rfl ?_
              refine r_cVP 8 d_Mod_pair_100 lk_Mod_156 vc_Mod_vanOf (mt_vanOf hC ⟨hn.2.2.1, hn.2.2.2⟩ hQ k2 (by omega)) rfl rfl rfl rfl ⟨Nat.le_of_ble_eq_true rfl, Nat.le_of_ble_eq_true rfl⟩ ⟨Nat.zero_le _, Nat.zero_le _⟩ (Nat.le_of_ble_eq_true rfl) ?_
              refine r_if_ge 119 d_Mod_pair_103 rfl (by have := vanOf_in g.P (s); omega) (fun h103 => ?_) (fun h103 => ?_)
              · have hvo := vanOf_in g.P s
                refine r_aload_n 0 d_Mod_pair_119 rfl rfl ?_
                refine r_bipush d_Mod_pair_120 (by decide) ?_
                refine r_cVI 8 d_Mod_pair_122 lk_Mod_126 vc_Mod_no (mt_no (by omega)) rfl rfl rfl rfl ⟨Nat.le_of_ble_eq_true rfl, Nat.le_of_ble_eq_true rfl⟩ ⟨Nat.zero_le _, Nat.zero_le _⟩ (Nat.le_of_ble_eq_true rfl) (fun r122 s122 q122 => ?_)
                have q := q122
                refine q_iret d_Mod_pair_125 rfl ?_
                exact qn_no hI MF.rf q (by unfold sp_pair; (repeat (first | rw [if_pos (by omega)] | rw [if_neg (by omega)])); (try rfl))
              · have hvo := vanOf_in g.P s
                have hs : s ∉ al3 g.P := vanOf_no.mp (by omega)
                have ro := row_ok k1 k2 (v := v) (i := i) (by omega) (by omega) (by omega) (by omega) (by omega) (by omega) hs
                have rw2 := row2_ok k1 k2 k3 (v := v) (i := i) (j := j) (by omega) (by omega) (by omega) (by omega) (by omega) (by omega) (by omega) (by omega) hs (by omega) (by omega)
                have hdm := pair_out k1 k2 k3 (s := s) (by omega) (by omega) hs (by omega) (by omega)
                have hv2 := vanOf_no.mpr hdm.2.2.2.2.2.1
                refine r_aload_n 0 d_Mod_pair_106 rfl rfl ?_
                refine r_aload_n 0 d_Mod_pair_107 rfl rfl ?_
                refine r_getR 177 d_Mod_pair_108 fk_Mod_31 rfl rfl rfl (by decide) ?_
                refine r_iload_n 1 d_Mod_pair_111 rfl rfl ?_
                refine r_iald 12 d_Mod_pair_112 rfl rfl (by omega) (by omega) ?_
                rw [hat.2.2.2.2.2.1]
                refine r_cVP 8 d_Mod_pair_113 lk_Mod_156 vc_Mod_vanOf (mt_vanOf hC ⟨hn.2.2.1, hn.2.2.2⟩ hQ k2 (by omega)) rfl rfl rfl rfl ⟨Nat.le_of_ble_eq_true rfl, Nat.le_of_ble_eq_true rfl⟩ ⟨Nat.zero_le _, Nat.zero_le _⟩ (Nat.le_of_ble_eq_true rfl) ?_
                refine r_if_lt 126 d_Mod_pair_116 rfl (by have := vanOf_in g.P (g.D 6 s); omega) (fun h116 => ?_) (fun h116 => absurd h116 (by omega))
                refine r_aload_n 0 d_Mod_pair_126 rfl rfl ?_
                refine r_aload_n 0 d_Mod_pair_127 rfl rfl ?_
                refine r_getR 186 d_Mod_pair_128 fk_Mod_58 rfl rfl rfl (by decide) ?_
                refine r_iconst d_Mod_pair_131 ?_
                refine r_cVV 8 d_Mod_pair_132 lk_Mod_231 vc_Mod_keeps (mt_keeps (n := 39) rfl rfl (Int.le_refl _) (by omega) (by omega) (by omega)) rfl rfl rfl rfl ⟨Nat.le_of_ble_eq_true rfl, Nat.le_of_ble_eq_true rfl⟩ ⟨Nat.zero_le _, Nat.zero_le _⟩ (Nat.le_of_ble_eq_true rfl) (fun s132 q132 => ?_)
                obtain ⟨t1, t2, t3⟩ := q132
                have hA1 : AP s132 186 0 g.P := AP.of hQ t1 t2
                have hQ1 := hQ.keep (σ' := s132) (fun c i q => t3 c i (by omega))
                have hE1 := hE.keep (σ' := s132) (fun c i q => t3 c i (by omega))
                have hF1 : MF σ s132 := fun c i q => t3 c i (by omega)
                refine r_aload_n 0 d_Mod_pair_135 rfl rfl ?_
                refine r_iload_n 1 d_Mod_pair_136 rfl rfl ?_
                refine r_iload_n 2 d_Mod_pair_137 rfl rfl ?_
                refine r_iload_n 3 d_Mod_pair_138 rfl rfl ?_
                refine r_cVV 8 d_Mod_pair_139 lk_Mod_224 vc_Mod_puts (mt_puts hQ1 (by omega) (by omega) (by omega) (by omega) ro.2.2.2 (by omega) (by omega)) rfl rfl rfl rfl ⟨Nat.le_of_ble_eq_true rfl, Nat.le_of_ble_eq_true rfl⟩ ⟨Nat.zero_le _, Nat.zero_le _⟩ (Nat.le_of_ble_eq_true rfl) (fun s139 q139 => ?_)
                obtain ⟨b1, b2⟩ := q139
                have hE2 := b2.re hE1
                have hA2 := b2.ap (by omega) hA1
                have hF2 := hF1.tr b2.mf
                have hm2 := (hE2.1.at (s := s) (by omega) (by omega)).2.2.2.2.2.1
                refine r_aload_n 0 d_Mod_pair_142 rfl rfl ?_
                refine r_aload_n 0 d_Mod_pair_143 rfl rfl ?_
                refine r_getR 177 d_Mod_pair_144 fk_Mod_31 rfl rfl rfl (by decide) ?_
                refine r_iload_n 1 d_Mod_pair_147 rfl rfl ?_
                refine r_iald 12 d_Mod_pair_148 rfl rfl (by omega) (by omega) ?_
                rw [hm2]
                refine r_iload_n 2 d_Mod_pair_149 rfl rfl ?_
                refine r_iload 4 d_Mod_pair_150 rfl ?_
                refine r_cVV 8 d_Mod_pair_152 lk_Mod_224 vc_Mod_puts (mt_puts b1 (by omega) (by omega) (by omega) (by rw [up_eq, ln_ins]; omega) (by rw [up_eq, ln_ins]; exact rw2.2.2.2) (by omega) (by omega)) rfl rfl rfl rfl ⟨Nat.le_of_ble_eq_true rfl, Nat.le_of_ble_eq_true rfl⟩ ⟨Nat.zero_le _, Nat.zero_le _⟩ (Nat.le_of_ble_eq_true rfl) (fun s152 q152 => ?_)
                obtain ⟨c1, c2⟩ := q152
                have hE3 := c2.re hE2
                have hA3 := c2.ap (by omega) hA2
                have hF3 := hF2.tr c2.mf
                rw [up_up, up_eq] at c1
                refine r_aload_n 0 d_Mod_pair_155 rfl rfl ?_
                refine r_cVI 8 d_Mod_pair_156 lk_Mod_234 vc_Mod_settles (mt_settles hk hE3 hA3 c1 rw2.1 hF3) rfl rfl rfl rfl ⟨Nat.le_of_ble_eq_true rfl, Nat.le_of_ble_eq_true rfl⟩ ⟨Nat.zero_le _, Nat.zero_le _⟩ (Nat.le_of_ble_eq_true rfl) (fun r156 s156 q156 => ?_)
                refine q_iret d_Mod_pair_159 rfl ?_
                exact qn_eq q156 (by unfold sp_pair; (repeat (first | rw [if_pos (by omega)] | rw [if_neg (by omega)])); (try rfl))
            · refine r_aload_n 0 d_Mod_pair_91 rfl rfl ?_
              refine r_bipush d_Mod_pair_92 (by decide) ?_
              refine r_cVI 8 d_Mod_pair_94 lk_Mod_126 vc_Mod_no (mt_no (by omega)) rfl rfl rfl rfl ⟨Nat.le_of_ble_eq_true rfl, Nat.le_of_ble_eq_true rfl⟩ ⟨Nat.zero_le _, Nat.zero_le _⟩ (Nat.le_of_ble_eq_true rfl) (fun r94 s94 q94 => ?_)
              have q := q94
              refine q_iret d_Mod_pair_97 rfl ?_
              exact qn_no hI MF.rf q (by unfold sp_pair; (repeat (first | rw [if_pos (by omega)] | rw [if_neg (by omega)])); (try rfl))
        · refine r_aload_n 0 d_Mod_pair_49 rfl rfl ?_
          refine r_bipush d_Mod_pair_50 (by decide) ?_
          refine r_cVI 8 d_Mod_pair_52 lk_Mod_126 vc_Mod_no (mt_no (by omega)) rfl rfl rfl rfl ⟨Nat.le_of_ble_eq_true rfl, Nat.le_of_ble_eq_true rfl⟩ ⟨Nat.zero_le _, Nat.zero_le _⟩ (Nat.le_of_ble_eq_true rfl) (fun r52 s52 q52 => ?_)
          have q := q52
          refine q_iret d_Mod_pair_55 rfl ?_
          exact qn_no hI MF.rf q (by unfold sp_pair; (repeat (first | rw [if_pos (by omega)] | rw [if_neg (by omega)])); (try rfl))
      · refine r_aload_n 0 d_Mod_pair_33 rfl rfl ?_
        refine r_bipush d_Mod_pair_34 (by decide) ?_
        refine r_cVI 8 d_Mod_pair_36 lk_Mod_126 vc_Mod_no (mt_no (by omega)) rfl rfl rfl rfl ⟨Nat.le_of_ble_eq_true rfl, Nat.le_of_ble_eq_true rfl⟩ ⟨Nat.zero_le _, Nat.zero_le _⟩ (Nat.le_of_ble_eq_true rfl) (fun r36 s36 q36 => ?_)
        have q := q36
        refine q_iret d_Mod_pair_39 rfl ?_
        exact qn_no hI MF.rf q (by unfold sp_pair; (repeat (first | rw [if_pos (by omega)] | rw [if_neg (by omega)])); (try rfl))
    · refine r_aload_n 0 d_Mod_pair_16 rfl rfl ?_
      refine r_bipush d_Mod_pair_17 (by decide) ?_
      refine r_cVI 8 d_Mod_pair_19 lk_Mod_126 vc_Mod_no (mt_no (by omega)) rfl rfl rfl rfl ⟨Nat.le_of_ble_eq_true rfl, Nat.le_of_ble_eq_true rfl⟩ ⟨Nat.zero_le _, Nat.zero_le _⟩ (Nat.le_of_ble_eq_true rfl) (fun r19 s19 q19 => ?_)
      have q := q19
      refine q_iret d_Mod_pair_22 rfl ?_
      exact qn_no hI MF.rf q (by unfold sp_pair; (repeat (first | rw [if_pos (by omega)] | rw [if_neg (by omega)])); (try rfl))
theorem cr_take {σ : sto} {g : G} {s : Int} (hI : RI σ g) (hk : g.ok) (h_s : inR s) : CI M_Mod_take 14 [vR 169, vI s] σ (QM (sp_take g s) σ) := by
  obtain ⟨hQ, hE⟩ := id hI
  obtain ⟨hC, hU, h45, hrow, h33, hrf⟩ := id hE
  obtain ⟨k1, k2, k3, k4, k5, k6⟩ := id hk
  have hn := k1.1
  have hRV := k2.rv hn.1 hn.2.1
  refine ci_of [vR 169, vI s] fy_Mod_take.1 rfl (Nat.le_of_ble_eq_true rfl) ?_
  refine r_aload_n 0 d_Mod_take_0 rfl rfl ?_
  refine r_iload_n 1 d_Mod_take_1 rfl rfl ?_
  refine r_cVI 8 d_Mod_take_2 lk_Mod_148 vc_Mod_isStop (mt_isStop hC.1 (by omega) (by omega)) rfl rfl rfl rfl ⟨Nat.le_of_ble_eq_true rfl, Nat.le_of_ble_eq_true rfl⟩ ⟨Nat.zero_le _, Nat.zero_le _⟩ (Nat.le_of_ble_eq_true rfl) (fun r2 s2 q2 => ?_)
  obtain ⟨q2, hs2⟩ := q2
  have hs2 := hs2.symm
  subst hs2
  refine r_if_ne 15 d_Mod_take_5 rfl (by omega) (fun h5 => ?_) (fun h5 => ?_)
  · have hat := hC.at (s := s) (by omega) (by omega)
    have hds := k1.2.1 s (by omega) (by omega)
    refine r_aload_n 0 d_Mod_take_15 rfl rfl ?_
    refine r_iload_n 1 d_Mod_take_16 rfl rfl ?_
    refine r_cVP 8 d_Mod_take_17 lk_Mod_156 vc_Mod_vanOf (mt_vanOf hC ⟨hn.2.2.1, hn.2.2.2⟩ hQ k2 (by omega)) rfl rfl rfl rfl ⟨Nat.le_of_ble_eq_true rfl, Nat.le_of_ble_eq_true rfl⟩ ⟨Nat.zero_le _, Nat.zero_le _⟩ (Nat.le_of_ble_eq_true rfl) ?_
    refine r_if_ge 30 d_Mod_take_20 rfl (by have := vanOf_in g.P (s); omega) (fun h20 => ?_) (fun h20 => ?_)
    · have hin := van_in h20
      have p1 := (k2.rmv hn.2.2.2 s).1
      have p2 := (p1.rmv hn.2.2.2 (g.D 6 s)).1
      refine r_aload_n 0 d_Mod_take_30 rfl rfl ?_
      refine r_aload_n 0 d_Mod_take_31 rfl rfl ?_
      refine r_getR 186 d_Mod_take_32 fk_Mod_58 rfl rfl rfl (by decide) ?_
      refine r_iconst d_Mod_take_35 ?_
      refine r_cVV 8 d_Mod_take_36 lk_Mod_231 vc_Mod_keeps (mt_keeps (n := 39) rfl rfl (Int.le_refl _) (by omega) (by omega) (by omega)) rfl rfl rfl rfl ⟨Nat.le_of_ble_eq_true rfl, Nat.le_of_ble_eq_true rfl⟩ ⟨Nat.zero_le _, Nat.zero_le _⟩ (Nat.le_of_ble_eq_true rfl) (fun s36 q36 => ?_)
      obtain ⟨t1, t2, t3⟩ := q36
      have hA1 : AP s36 186 0 g.P := AP.of hQ t1 t2
      have hQ1 := hQ.keep (σ' := s36) (fun c i q => t3 c i (by omega))
      have hE1 := hE.keep (σ' := s36) (fun c i q => t3 c i (by omega))
      have hF1 : MF σ s36 := fun c i q => t3 c i (by omega)
      refine r_aload_n 0 d_Mod_take_39 rfl rfl ?_
      refine r_iload_n 1 d_Mod_take_40 rfl rfl ?_
      refine r_cVV 8 d_Mod_take_41 lk_Mod_228 vc_Mod_takesOut (mt_takesOut hE1.1 ⟨hn.2.2.1, hn.2.2.2⟩ hQ1 k2 (by omega) hin) rfl rfl rfl rfl ⟨Nat.le_of_ble_eq_true rfl, Nat.le_of_ble_eq_true rfl⟩ ⟨Nat.zero_le _, Nat.zero_le _⟩ (Nat.le_of_ble_eq_true rfl) (fun s41 q41 => ?_)
      obtain ⟨b1, b2⟩ := q41
      have hE2 := b2.re hE1
      have hA2 := b2.ap (by omega) hA1
      have hF2 := hF1.tr b2.mf
      have hm2 := (hE2.1.at (s := s) (by omega) (by omega)).2.2.2.2.2.1
      refine r_aload_n 0 d_Mod_take_44 rfl rfl ?_
      refine r_getR 177 d_Mod_take_45 fk_Mod_31 rfl rfl rfl (by decide) ?_
      refine r_iload_n 1 d_Mod_take_48 rfl rfl ?_
      refine r_iald 12 d_Mod_take_49 rfl rfl (by omega) (by omega) ?_
      rw [hm2]
      refine r_if_lt 63 d_Mod_take_50 rfl (by omega) (fun h50 => ?_) (fun h50 => ?_)
      · refine r_aload_n 0 d_Mod_take_63 rfl rfl ?_
        refine r_cVI 8 d_Mod_take_64 lk_Mod_234 vc_Mod_settles (mt_settles hk (by first | exact hE3 | exact hE2) (by first | exact hA3 | exact hA2) (by first | exact c1 | exact b1) (by first | exact p2 | exact p1) (by first | exact hF3 | exact hF2)) rfl rfl rfl rfl ⟨Nat.le_of_ble_eq_true rfl, Nat.le_of_ble_eq_true rfl⟩ ⟨Nat.zero_le _, Nat.zero_le _⟩ (Nat.le_of_ble_eq_true rfl) (fun r64 s64 q64 => ?_)
        refine q_iret d_Mod_take_67 rfl ?_
        exact qn_eq q64 (by unfold sp_take; (repeat (first | rw [if_pos (by omega)] | rw [if_neg (by omega)])); (try rfl))
      · have hpi := pair_in k1 k2 k3 hin (by omega)
        refine r_aload_n 0 d_Mod_take_53 rfl rfl ?_
        refine r_aload_n 0 d_Mod_take_54 rfl rfl ?_
        refine r_getR 177 d_Mod_take_55 fk_Mod_31 rfl rfl rfl (by decide) ?_
        refine r_iload_n 1 d_Mod_take_58 rfl rfl ?_
        refine r_iald 12 d_Mod_take_59 rfl rfl (by omega) (by omega) ?_
        rw [hm2]
        refine r_cVV 8 d_Mod_take_60 lk_Mod_228 vc_Mod_takesOut (mt_takesOut hE2.1 ⟨hn.2.2.1, hn.2.2.2⟩ b1 p1 (by omega) (mem_rmv k2 hin hpi.1 hpi.2)) rfl rfl rfl rfl ⟨Nat.le_of_ble_eq_true rfl, Nat.le_of_ble_eq_true rfl⟩ ⟨Nat.zero_le _, Nat.zero_le _⟩ (Nat.le_of_ble_eq_true rfl) (fun s60 q60 => ?_)
        obtain ⟨c1, c2⟩ := q60
        have hE3 := c2.re hE2
        have hA3 := c2.ap (by omega) hA2
        have hF3 := hF2.tr c2.mf
        refine r_aload_n 0 d_Mod_take_63 rfl rfl ?_
        refine r_cVI 8 d_Mod_take_64 lk_Mod_234 vc_Mod_settles (mt_settles hk (by first | exact hE3 | exact hE2) (by first | exact hA3 | exact hA2) (by first | exact c1 | exact b1) (by first | exact p2 | exact p1) (by first | exact hF3 | exact hF2)) rfl rfl rfl rfl ⟨Nat.le_of_ble_eq_true rfl, Nat.le_of_ble_eq_true rfl⟩ ⟨Nat.zero_le _, Nat.zero_le _⟩ (Nat.le_of_ble_eq_true rfl) (fun r64 s64 q64 => ?_)
        refine q_iret d_Mod_take_67 rfl ?_
        exact qn_eq q64 (by unfold sp_take; (repeat (first | rw [if_pos (by omega)] | rw [if_neg (by omega)])); (try rfl))
    · have hvo := vanOf_in g.P s
      refine r_aload_n 0 d_Mod_take_23 rfl rfl ?_
      refine r_bipush d_Mod_take_24 (by decide) ?_
      refine r_cVI 8 d_Mod_take_26 lk_Mod_126 vc_Mod_no (mt_no (by omega)) rfl rfl rfl rfl ⟨Nat.le_of_ble_eq_true rfl, Nat.le_of_ble_eq_true rfl⟩ ⟨Nat.zero_le _, Nat.zero_le _⟩ (Nat.le_of_ble_eq_true rfl) (fun r26 s26 q26 => ?_)
      have q := q26
      refine q_iret d_Mod_take_29 rfl ?_
      exact qn_no hI MF.rf q (by unfold sp_take; (repeat (first | rw [if_pos (by omega)] | rw [if_neg (by omega)])); (try rfl))
  · refine r_aload_n 0 d_Mod_take_8 rfl rfl ?_
    refine r_bipush d_Mod_take_9 (by decide) ?_
    refine r_cVI 8 d_Mod_take_11 lk_Mod_126 vc_Mod_no (mt_no (by omega)) rfl rfl rfl rfl ⟨Nat.le_of_ble_eq_true rfl, Nat.le_of_ble_eq_true rfl⟩ ⟨Nat.zero_le _, Nat.zero_le _⟩ (Nat.le_of_ble_eq_true rfl) (fun r11 s11 q11 => ?_)
    have q := q11
    refine q_iret d_Mod_take_14 rfl ?_
    exact qn_no hI MF.rf q (by unfold sp_take; (repeat (first | rw [if_pos (by omega)] | rw [if_neg (by omega)])); (try rfl))
theorem cr_move {σ : sto} {g : G} {s v i : Int} (hI : RI σ g) (hk : g.ok) (h_s : inR s) (h_v : inR v) (h_i : inR i) : CI M_Mod_move 14 [vR 169, vI s, vI v, vI i] σ (QM (sp_move g s v i) σ) := by
  obtain ⟨hQ, hE⟩ := id hI
  obtain ⟨hC, hU, h45, hrow, h33, hrf⟩ := id hE
  obtain ⟨k1, k2, k3, k4, k5, k6⟩ := id hk
  have hn := k1.1
  have hRV := k2.rv hn.1 hn.2.1
  refine ci_of [vR 169, vI s, vI v, vI i, vU] fy_Mod_move.1 rfl (Nat.le_of_ble_eq_true rfl) ?_
  refine r_aload_n 0 d_Mod_move_0 rfl rfl ?_
  refine r_iload_n 1 d_Mod_move_1 rfl rfl ?_
  refine r_cVI 8 d_Mod_move_2 lk_Mod_148 vc_Mod_isStop (mt_isStop hC.1 (by omega) (by omega)) rfl rfl rfl rfl ⟨Nat.le_of_ble_eq_true rfl, Nat.le_of_ble_eq_true rfl⟩ ⟨Nat.zero_le _, Nat.zero_le _⟩ (Nat.le_of_ble_eq_true rfl) (fun r2 s2 q2 => ?_)
  obtain ⟨q2, hs2⟩ := q2
  have hs2 := hs2.symm
  subst hs2
  refine r_if_eq 16 d_Mod_move_5 rfl (by omega) (fun h5 => ?_) (fun h5 => ?_)
  · refine r_aload_n 0 d_Mod_move_16 rfl rfl ?_
    refine r_bipush d_Mod_move_17 (by decide) ?_
    refine r_cVI 8 d_Mod_move_19 lk_Mod_126 vc_Mod_no (mt_no (by omega)) rfl rfl rfl rfl ⟨Nat.le_of_ble_eq_true rfl, Nat.le_of_ble_eq_true rfl⟩ ⟨Nat.zero_le _, Nat.zero_le _⟩ (Nat.le_of_ble_eq_true rfl) (fun r19 s19 q19 => ?_)
    have q := q19
    refine q_iret d_Mod_move_22 rfl ?_
    exact qn_no hI MF.rf q (by unfold sp_move; (repeat (first | rw [if_pos (by omega)] | rw [if_neg (by omega)])); (try rfl))
  · refine r_aload_n 0 d_Mod_move_8 rfl rfl ?_
    refine r_iload_n 2 d_Mod_move_9 rfl rfl ?_
    refine r_cVI 8 d_Mod_move_10 lk_Mod_165 vc_Mod_isVan (mt_isVan hC.2.1 (by omega) (by omega)) rfl rfl rfl rfl ⟨Nat.le_of_ble_eq_true rfl, Nat.le_of_ble_eq_true rfl⟩ ⟨Nat.zero_le _, Nat.zero_le _⟩ (Nat.le_of_ble_eq_true rfl) (fun r10 s10 q10 => ?_)
    obtain ⟨q10, hs10⟩ := q10
    have hs10 := hs10.symm
    subst hs10
    refine r_if_ne 23 d_Mod_move_13 rfl (by omega) (fun h13 => ?_) (fun h13 => ?_)
    · have hz := hQ.len (v := v) (by omega) (by omega)
      refine r_aload_n 0 d_Mod_move_23 rfl rfl ?_
      refine r_iload_n 1 d_Mod_move_24 rfl rfl ?_
      refine r_cVP 8 d_Mod_move_25 lk_Mod_156 vc_Mod_vanOf (mt_vanOf hC ⟨hn.2.2.1, hn.2.2.2⟩ hQ k2 (by omega)) rfl rfl rfl rfl ⟨Nat.le_of_ble_eq_true rfl, Nat.le_of_ble_eq_true rfl⟩ ⟨Nat.zero_le _, Nat.zero_le _⟩ (Nat.le_of_ble_eq_true rfl) ?_
      refine r_istore 4 d_Mod_move_28 (by decide) rfl ?_
      refine r_iload 4 d_Mod_move_30 rfl ?_
      refine r_if_ge 42 d_Mod_move_32 rfl (by have := vanOf_in g.P (s); omega) (fun h32 => ?_) (fun h32 => ?_)
      · have hin := van_in h32
        obtain ⟨p1, hs1⟩ := k2.rmv hn.2.2.2 s
        have e1 := rmv1_eq (P := g.P) (s := s) rfl (by omega)
        refine r_iload_n 3 d_Mod_move_42 rfl rfl ?_
        refine r_i2l d_Mod_move_43 (by omega) ?_
        refine r_lconst (z := 0) d_Mod_move_44 (by decide) ?_
        refine r_aload_n 0 d_Mod_move_45 rfl rfl ?_
        refine r_getR 184 d_Mod_move_46 fk_Mod_52 rfl rfl rfl (by decide) ?_
        refine r_iload_n 2 d_Mod_move_49 rfl rfl ?_
        refine r_iald 3 d_Mod_move_50 rfl rfl (by omega) (by omega) ?_
        rw [hz.1]
        refine r_iload 4 d_Mod_move_51 rfl ?_
        refine r_iload_n 2 d_Mod_move_53 rfl rfl ?_
        refine r_icmp_ne 61 d_Mod_move_54 rfl (by have := vanOf_in g.P s; omega) (by omega) (fun h54 => ?_) (fun h54 => ?_)
        · have hrl : ln (rmv1 g.P s v) = ln (g.P v) := by rw [e1, up_ne (by omega)]
          refine r_iconst d_Mod_move_61 ?_
          refine r_isub d_Mod_move_62 ?_
          refine r_i2l d_Mod_move_63 (by omega) ?_
          refine r_cSI d_Mod_move_64 lk_Mod_122 sc_Mod_isIn (mt_isIn (by omega) (by omega) (by omega)) rfl rfl ⟨Nat.le_of_ble_eq_true rfl, Nat.le_of_ble_eq_true rfl⟩ ⟨Nat.zero_le _, Nat.zero_le _⟩ (Nat.le_of_ble_eq_true rfl) (fun r64 s64 q64 => ?_)
          obtain ⟨q64, hs64⟩ := q64
          have hs64 := hs64.symm
          subst hs64
          refine r_if_ne 77 d_Mod_move_67 rfl (by omega) (fun h67 => ?_) (fun h67 => ?_)
          · have ro := row_ok k1 p1 (v := v) (i := i) (by omega) (by omega) (by omega) (by omega) (by omega) (by omega) hs1
            refine r_aload_n 0 d_Mod_move_77 rfl rfl ?_
            refine r_aload_n 0 d_Mod_move_78 rfl rfl ?_
            refine r_getR 186 d_Mod_move_79 fk_Mod_58 rfl rfl rfl (by decide) ?_
            refine r_iconst d_Mod_move_82 ?_
            refine r_cVV 8 d_Mod_move_83 lk_Mod_231 vc_Mod_keeps (mt_keeps (n := 39) rfl rfl (Int.le_refl _) (by omega) (by omega) (by omega)) rfl rfl rfl rfl ⟨Nat.le_of_ble_eq_true rfl, Nat.le_of_ble_eq_true rfl⟩ ⟨Nat.zero_le _, Nat.zero_le _⟩ (Nat.le_of_ble_eq_true rfl) (fun s83 q83 => ?_)
            obtain ⟨t1, t2, t3⟩ := q83
            have hA1 : AP s83 186 0 g.P := AP.of hQ t1 t2
            have hQ1 := hQ.keep (σ' := s83) (fun c i q => t3 c i (by omega))
            have hE1 := hE.keep (σ' := s83) (fun c i q => t3 c i (by omega))
            have hF1 : MF σ s83 := fun c i q => t3 c i (by omega)
            refine r_aload_n 0 d_Mod_move_86 rfl rfl ?_
            refine r_iload_n 1 d_Mod_move_87 rfl rfl ?_
            refine r_cVV 8 d_Mod_move_88 lk_Mod_228 vc_Mod_takesOut (mt_takesOut hE1.1 ⟨hn.2.2.1, hn.2.2.2⟩ hQ1 k2 (by omega) hin) rfl rfl rfl rfl ⟨Nat.le_of_ble_eq_true rfl, Nat.le_of_ble_eq_true rfl⟩ ⟨Nat.zero_le _, Nat.zero_le _⟩ (Nat.le_of_ble_eq_true rfl) (fun s88 q88 => ?_)
            obtain ⟨b1, b2⟩ := q88
            have hE2 := b2.re hE1
            have hA2 := b2.ap (by omega) hA1
            have hF2 := hF1.tr b2.mf
            refine r_aload_n 0 d_Mod_move_91 rfl rfl ?_
            refine r_iload_n 1 d_Mod_move_92 rfl rfl ?_
            refine r_iload_n 2 d_Mod_move_93 rfl rfl ?_
            refine r_iload_n 3 d_Mod_move_94 rfl rfl ?_
            refine r_cVV 8 d_Mod_move_95 lk_Mod_224 vc_Mod_puts (mt_puts b1 (by omega) (by omega) (by omega) (by omega) ro.2.2.2 (by omega) (by omega)) rfl rfl rfl rfl ⟨Nat.le_of_ble_eq_true rfl, Nat.le_of_ble_eq_true rfl⟩ ⟨Nat.zero_le _, Nat.zero_le _⟩ (Nat.le_of_ble_eq_true rfl) (fun s95 q95 => ?_)
            obtain ⟨c1, c2⟩ := q95
            have hE3 := c2.re hE2
            have hA3 := c2.ap (by omega) hA2
            have hF3 := hF2.tr c2.mf
            refine r_aload_n 0 d_Mod_move_98 rfl rfl ?_
            refine r_cVI 8 d_Mod_move_99 lk_Mod_234 vc_Mod_settles (mt_settles hk hE3 hA3 c1 ro.1 hF3) rfl rfl rfl rfl ⟨Nat.le_of_ble_eq_true rfl, Nat.le_of_ble_eq_true rfl⟩ ⟨Nat.zero_le _, Nat.zero_le _⟩ (Nat.le_of_ble_eq_true rfl) (fun r99 s99 q99 => ?_)
            refine q_iret d_Mod_move_102 rfl ?_
            exact qn_eq q99 (by unfold sp_move; (repeat (first | rw [if_pos (by omega)] | rw [if_neg (by omega)])); (try rfl))
          · refine r_aload_n 0 d_Mod_move_70 rfl rfl ?_
            refine r_bipush d_Mod_move_71 (by decide) ?_
            refine r_cVI 8 d_Mod_move_73 lk_Mod_126 vc_Mod_no (mt_no (by omega)) rfl rfl rfl rfl ⟨Nat.le_of_ble_eq_true rfl, Nat.le_of_ble_eq_true rfl⟩ ⟨Nat.zero_le _, Nat.zero_le _⟩ (Nat.le_of_ble_eq_true rfl) (fun r73 s73 q73 => ?_)
            have q := q73
            refine q_iret d_Mod_move_76 rfl ?_
            exact qn_no hI MF.rf q (by unfold sp_move; (repeat (first | rw [if_pos (by omega)] | rw [if_neg (by omega)])); (try rfl))
        · have hy := vanOf_yes k2 hin
          have hrl : ln (rmv1 g.P s v) = ln (g.P v) - 1 := by rw [e1, h54, up_eq, ln_del (by rw [h54] at hy; omega)]
          refine r_iconst d_Mod_move_57 ?_
          refine r_goto 62 d_Mod_move_58 rfl ?_
          refine r_isub d_Mod_move_62 ?_
          refine r_i2l d_Mod_move_63 (by omega) ?_
          refine r_cSI d_Mod_move_64 lk_Mod_122 sc_Mod_isIn (mt_isIn (by omega) (by omega) (by omega)) rfl rfl ⟨Nat.le_of_ble_eq_true rfl, Nat.le_of_ble_eq_true rfl⟩ ⟨Nat.zero_le _, Nat.zero_le _⟩ (Nat.le_of_ble_eq_true rfl) (fun r64 s64 q64 => ?_)
          obtain ⟨q64, hs64⟩ := q64
          have hs64 := hs64.symm
          subst hs64
          refine r_if_ne 77 d_Mod_move_67 rfl (by omega) (fun h67 => ?_) (fun h67 => ?_)
          · have ro := row_ok k1 p1 (v := v) (i := i) (by omega) (by omega) (by omega) (by omega) (by omega) (by omega) hs1
            refine r_aload_n 0 d_Mod_move_77 rfl rfl ?_
            refine r_aload_n 0 d_Mod_move_78 rfl rfl ?_
            refine r_getR 186 d_Mod_move_79 fk_Mod_58 rfl rfl rfl (by decide) ?_
            refine r_iconst d_Mod_move_82 ?_
            refine r_cVV 8 d_Mod_move_83 lk_Mod_231 vc_Mod_keeps (mt_keeps (n := 39) rfl rfl (Int.le_refl _) (by omega) (by omega) (by omega)) rfl rfl rfl rfl ⟨Nat.le_of_ble_eq_true rfl, Nat.le_of_ble_eq_true rfl⟩ ⟨Nat.zero_le _, Nat.zero_le _⟩ (Nat.le_of_ble_eq_true rfl) (fun s83 q83 => ?_)
            obtain ⟨t1, t2, t3⟩ := q83
            have hA1 : AP s83 186 0 g.P := AP.of hQ t1 t2
            have hQ1 := hQ.keep (σ' := s83) (fun c i q => t3 c i (by omega))
            have hE1 := hE.keep (σ' := s83) (fun c i q => t3 c i (by omega))
            have hF1 : MF σ s83 := fun c i q => t3 c i (by omega)
            refine r_aload_n 0 d_Mod_move_86 rfl rfl ?_
            refine r_iload_n 1 d_Mod_move_87 rfl rfl ?_
            refine r_cVV 8 d_Mod_move_88 lk_Mod_228 vc_Mod_takesOut (mt_takesOut hE1.1 ⟨hn.2.2.1, hn.2.2.2⟩ hQ1 k2 (by omega) hin) rfl rfl rfl rfl ⟨Nat.le_of_ble_eq_true rfl, Nat.le_of_ble_eq_true rfl⟩ ⟨Nat.zero_le _, Nat.zero_le _⟩ (Nat.le_of_ble_eq_true rfl) (fun s88 q88 => ?_)
            obtain ⟨b1, b2⟩ := q88
            have hE2 := b2.re hE1
            have hA2 := b2.ap (by omega) hA1
            have hF2 := hF1.tr b2.mf
            refine r_aload_n 0 d_Mod_move_91 rfl rfl ?_
            refine r_iload_n 1 d_Mod_move_92 rfl rfl ?_
            refine r_iload_n 2 d_Mod_move_93 rfl rfl ?_
            refine r_iload_n 3 d_Mod_move_94 rfl rfl ?_
            refine r_cVV 8 d_Mod_move_95 lk_Mod_224 vc_Mod_puts (mt_puts b1 (by omega) (by omega) (by omega) (by omega) ro.2.2.2 (by omega) (by omega)) rfl rfl rfl rfl ⟨Nat.le_of_ble_eq_true rfl, Nat.le_of_ble_eq_true rfl⟩ ⟨Nat.zero_le _, Nat.zero_le _⟩ (Nat.le_of_ble_eq_true rfl) (fun s95 q95 => ?_)
            obtain ⟨c1, c2⟩ := q95
            have hE3 := c2.re hE2
            have hA3 := c2.ap (by omega) hA2
            have hF3 := hF2.tr c2.mf
            refine r_aload_n 0 d_Mod_move_98 rfl rfl ?_
            refine r_cVI 8 d_Mod_move_99 lk_Mod_234 vc_Mod_settles (mt_settles hk hE3 hA3 c1 ro.1 hF3) rfl rfl rfl rfl ⟨Nat.le_of_ble_eq_true rfl, Nat.le_of_ble_eq_true rfl⟩ ⟨Nat.zero_le _, Nat.zero_le _⟩ (Nat.le_of_ble_eq_true rfl) (fun r99 s99 q99 => ?_)
            refine q_iret d_Mod_move_102 rfl ?_
            exact qn_eq q99 (by unfold sp_move; (repeat (first | rw [if_pos (by omega)] | rw [if_neg (by omega)])); (try rfl))
          · refine r_aload_n 0 d_Mod_move_70 rfl rfl ?_
            refine r_bipush d_Mod_move_71 (by decide) ?_
            refine r_cVI 8 d_Mod_move_73 lk_Mod_126 vc_Mod_no (mt_no (by omega)) rfl rfl rfl rfl ⟨Nat.le_of_ble_eq_true rfl, Nat.le_of_ble_eq_true rfl⟩ ⟨Nat.zero_le _, Nat.zero_le _⟩ (Nat.le_of_ble_eq_true rfl) (fun r73 s73 q73 => ?_)
            have q := q73
            refine q_iret d_Mod_move_76 rfl ?_
            exact qn_no hI MF.rf q (by unfold sp_move; (repeat (first | rw [if_pos (by omega)] | rw [if_neg (by omega)])); (try rfl))
      · have hvo := vanOf_in g.P s
        refine r_aload_n 0 d_Mod_move_35 rfl rfl ?_
        refine r_bipush d_Mod_move_36 (by decide) ?_
        refine r_cVI 8 d_Mod_move_38 lk_Mod_126 vc_Mod_no (mt_no (by omega)) rfl rfl rfl rfl ⟨Nat.le_of_ble_eq_true rfl, Nat.le_of_ble_eq_true rfl⟩ ⟨Nat.zero_le _, Nat.zero_le _⟩ (Nat.le_of_ble_eq_true rfl) (fun r38 s38 q38 => ?_)
        have q := q38
        refine q_iret d_Mod_move_41 rfl ?_
        exact qn_no hI MF.rf q (by unfold sp_move; (repeat (first | rw [if_pos (by omega)] | rw [if_neg (by omega)])); (try rfl))
    · refine r_aload_n 0 d_Mod_move_16 rfl rfl ?_
      refine r_bipush d_Mod_move_17 (by decide) ?_
      refine r_cVI 8 d_Mod_move_19 lk_Mod_126 vc_Mod_no (mt_no (by omega)) rfl rfl rfl rfl ⟨Nat.le_of_ble_eq_true rfl, Nat.le_of_ble_eq_true rfl⟩ ⟨Nat.zero_le _, Nat.zero_le _⟩ (Nat.le_of_ble_eq_true rfl) (fun r19 s19 q19 => ?_)
      have q := q19
      refine q_iret d_Mod_move_22 rfl ?_
      exact qn_no hI MF.rf q (by unfold sp_move; (repeat (first | rw [if_pos (by omega)] | rw [if_neg (by omega)])); (try rfl))
theorem cr_turn {σ : sto} {g : G} {v i j : Int} (hI : RI σ g) (hk : g.ok) (h_v : inR v) (h_i : inR i) (h_j : inR j) : CI M_Mod_turn 14 [vR 169, vI v, vI i, vI j] σ (QM (sp_turn g v i j) σ) := by
  obtain ⟨hQ, hE⟩ := id hI
  obtain ⟨hC, hU, h45, hrow, h33, hrf⟩ := id hE
  obtain ⟨k1, k2, k3, k4, k5, k6⟩ := id hk
  have hn := k1.1
  have hRV := k2.rv hn.1 hn.2.1
  refine ci_of [vR 169, vI v, vI i, vI j, vU] fy_Mod_turn.1 rfl (Nat.le_of_ble_eq_true rfl) ?_
  refine r_aload_n 0 d_Mod_turn_0 rfl rfl ?_
  refine r_iload_n 1 d_Mod_turn_1 rfl rfl ?_
  refine r_cVI 8 d_Mod_turn_2 lk_Mod_165 vc_Mod_isVan (mt_isVan hC.2.1 (by omega) (by omega)) rfl rfl rfl rfl ⟨Nat.le_of_ble_eq_true rfl, Nat.le_of_ble_eq_true rfl⟩ ⟨Nat.zero_le _, Nat.zero_le _⟩ (Nat.le_of_ble_eq_true rfl) (fun r2 s2 q2 => ?_)
  obtain ⟨q2, hs2⟩ := q2
  have hs2 := hs2.symm
  subst hs2
  refine r_if_eq 44 d_Mod_turn_5 rfl (by omega) (fun h5 => ?_) (fun h5 => ?_)
  · refine r_aload_n 0 d_Mod_turn_44 rfl rfl ?_
    refine r_bipush d_Mod_turn_45 (by decide) ?_
    refine r_cVI 8 d_Mod_turn_47 lk_Mod_126 vc_Mod_no (mt_no (by omega)) rfl rfl rfl rfl ⟨Nat.le_of_ble_eq_true rfl, Nat.le_of_ble_eq_true rfl⟩ ⟨Nat.zero_le _, Nat.zero_le _⟩ (Nat.le_of_ble_eq_true rfl) (fun r47 s47 q47 => ?_)
    have q := q47
    refine q_iret d_Mod_turn_50 rfl ?_
    exact qn_no hI MF.rf q (by unfold sp_turn; (repeat (first | rw [if_pos (by omega)] | rw [if_neg (by omega)])); (try rfl))
  · have hz := hQ.len (v := v) (by omega) (by omega)
    refine r_iload_n 2 d_Mod_turn_8 rfl rfl ?_
    refine r_i2l d_Mod_turn_9 (by omega) ?_
    refine r_lconst (z := 0) d_Mod_turn_10 (by decide) ?_
    refine r_aload_n 0 d_Mod_turn_11 rfl rfl ?_
    refine r_getR 184 d_Mod_turn_12 fk_Mod_52 rfl rfl rfl (by decide) ?_
    refine r_iload_n 1 d_Mod_turn_15 rfl rfl ?_
    refine r_iald 3 d_Mod_turn_16 rfl rfl (by omega) (by omega) ?_
    rw [hz.1]
    refine r_iconst d_Mod_turn_17 ?_
    refine r_isub d_Mod_turn_18 ?_
    refine r_i2l d_Mod_turn_19 (by omega) ?_
    refine r_cSI d_Mod_turn_20 lk_Mod_122 sc_Mod_isIn (mt_isIn (by omega) (by omega) (by omega)) rfl rfl ⟨Nat.le_of_ble_eq_true rfl, Nat.le_of_ble_eq_true rfl⟩ ⟨Nat.zero_le _, Nat.zero_le _⟩ (Nat.le_of_ble_eq_true rfl) (fun r20 s20 q20 => ?_)
    obtain ⟨q20, hs20⟩ := q20
    have hs20 := hs20.symm
    subst hs20
    refine r_if_eq 44 d_Mod_turn_23 rfl (by omega) (fun h23 => ?_) (fun h23 => ?_)
    · refine r_aload_n 0 d_Mod_turn_44 rfl rfl ?_
      refine r_bipush d_Mod_turn_45 (by decide) ?_
      refine r_cVI 8 d_Mod_turn_47 lk_Mod_126 vc_Mod_no (mt_no (by omega)) rfl rfl rfl rfl ⟨Nat.le_of_ble_eq_true rfl, Nat.le_of_ble_eq_true rfl⟩ ⟨Nat.zero_le _, Nat.zero_le _⟩ (Nat.le_of_ble_eq_true rfl) (fun r47 s47 q47 => ?_)
      have q := q47
      refine q_iret d_Mod_turn_50 rfl ?_
      exact qn_no hI MF.rf q (by unfold sp_turn; (repeat (first | rw [if_pos (by omega)] | rw [if_neg (by omega)])); (try rfl))
    · refine r_iload_n 3 d_Mod_turn_26 rfl rfl ?_
      refine r_i2l d_Mod_turn_27 (by omega) ?_
      refine r_lconst (z := 0) d_Mod_turn_28 (by decide) ?_
      refine r_aload_n 0 d_Mod_turn_29 rfl rfl ?_
      refine r_getR 184 d_Mod_turn_30 fk_Mod_52 rfl rfl rfl (by decide) ?_
      refine r_iload_n 1 d_Mod_turn_33 rfl rfl ?_
      refine r_iald 3 d_Mod_turn_34 rfl rfl (by omega) (by omega) ?_
      rw [hz.1]
      refine r_iconst d_Mod_turn_35 ?_
      refine r_isub d_Mod_turn_36 ?_
      refine r_i2l d_Mod_turn_37 (by omega) ?_
      refine r_cSI d_Mod_turn_38 lk_Mod_122 sc_Mod_isIn (mt_isIn (by omega) (by omega) (by omega)) rfl rfl ⟨Nat.le_of_ble_eq_true rfl, Nat.le_of_ble_eq_true rfl⟩ ⟨Nat.zero_le _, Nat.zero_le _⟩ (Nat.le_of_ble_eq_true rfl) (fun r38 s38 q38 => ?_)
      obtain ⟨q38, hs38⟩ := q38
      have hs38 := hs38.symm
      subst hs38
      refine r_if_ne 51 d_Mod_turn_41 rfl (by omega) (fun h41 => ?_) (fun h41 => ?_)
      · refine r_iload_n 2 d_Mod_turn_51 rfl rfl ?_
        refine r_iload_n 3 d_Mod_turn_52 rfl rfl ?_
        refine r_icmp_lt 63 d_Mod_turn_53 rfl (by omega) (by omega) (fun h53 => ?_) (fun h53 => ?_)
        · refine r_aload_n 0 d_Mod_turn_63 rfl rfl ?_
          refine r_aload_n 0 d_Mod_turn_64 rfl rfl ?_
          refine r_getR 186 d_Mod_turn_65 fk_Mod_58 rfl rfl rfl (by decide) ?_
          refine r_iconst d_Mod_turn_68 ?_
          refine r_cVV 8 d_Mod_turn_69 lk_Mod_231 vc_Mod_keeps (mt_keeps (n := 39) rfl rfl (Int.le_refl _) (by omega) (by omega) (by omega)) rfl rfl rfl rfl ⟨Nat.le_of_ble_eq_true rfl, Nat.le_of_ble_eq_true rfl⟩ ⟨Nat.zero_le _, Nat.zero_le _⟩ (Nat.le_of_ble_eq_true rfl) (fun s69 q69 => ?_)
          obtain ⟨t1, t2, t3⟩ := q69
          have hA1 : AP s69 186 0 g.P := AP.of hQ t1 t2
          have hQ1 := hQ.keep (σ' := s69) (fun c i q => t3 c i (by omega))
          have hE1 := hE.keep (σ' := s69) (fun c i q => t3 c i (by omega))
          have hF1 : MF σ s69 := fun c i q => t3 c i (by omega)
          refine r_iload_n 2 d_Mod_turn_72 rfl rfl ?_
          refine r_istore 4 d_Mod_turn_73 (by decide) rfl ?_
          have LT : ∀ k, i ≤ k → k ≤ j + 1 → ∀ σ2 : sto, (∀ x, i ≤ x → x < k → σ2 183 (12 * v + x) = gt (g.P v) (i + j - x)) → (∀ c x : Int, (c ≠ 183 ∨ x < 12 * v + i ∨ 12 * v + k ≤ x) → σ2 c x = s69 c x) → Run M_Mod_turn (rxI 14 (QM (sp_turn g v i j) σ)) (0, 0) 75 [vR 169, vI v, vI i, vI j, vI k] [] (sg σ2) := by
            refine up_ind (b := j + 1) ?_ ?_
            · intro σ2 g1 g2
              have hE2 : RE σ2 g := hE1.keep (fun c i q => g2 c i (by omega))
              have hA2 : AP σ2 186 0 g.P := hA1.keep (fun k _ _ => g2 186 k (by omega))
              have hF2 : MF σ σ2 := hF1.tr (fun c i q => g2 c i (by omega))
              have hl := (hQ1.len (v := v) (by omega) (by omega)).2
              have b1 : RA σ2 (up g.P v (revA (g.P v) i j)) := by
                refine hQ1.up (by omega) (by omega) (fun x q => g2 183 x (by omega)) (fun x q => g2 184 x (by omega)) (by rw [g2 184 v (by omega), ln_rev]; exact (hQ1.len (v := v) (by omega) (by omega)).1) (by rw [ln_rev]; omega) (fun x x0 x1 => ?_)
                rw [ln_rev] at x1
                have e : gt (revA (g.P v) i j) x = if i ≤ x ∧ x ≤ j then gt (g.P v) (i + j - x) else gt (g.P v) x := gt_mk x0 x1
                rw [e]
                by_cases z : i ≤ x ∧ x ≤ j
                · rw [if_pos z, g1 x z.1 (by omega)]; exact ⟨rfl, (hQ1.el (v := v) (by omega) (by omega) (show 0 ≤ i + j - x by omega) (by omega)).2⟩
                · rw [if_neg z, g2 183 _ (by omega)]; exact hQ1.el (by omega) (by omega) x0 x1
              refine r_iload 4 d_Mod_turn_75 rfl ?_
              refine r_iload_n 3 d_Mod_turn_77 rfl rfl ?_
              refine r_icmp_gt 115 d_Mod_turn_78 rfl (by omega) (by omega) (fun h78 => ?_) (fun h78 => absurd h78 (by omega))
              refine r_aload_n 0 d_Mod_turn_115 rfl rfl ?_
              refine r_cVI 8 d_Mod_turn_116 lk_Mod_234 vc_Mod_settles (mt_settles hk hE2 hA2 b1 (k2.turn hn.2.2.2 (by omega) (by omega) (by omega) (by omega) (by omega)) hF2) rfl rfl rfl rfl ⟨Nat.le_of_ble_eq_true rfl, Nat.le_of_ble_eq_true rfl⟩ ⟨Nat.zero_le _, Nat.zero_le _⟩ (Nat.le_of_ble_eq_true rfl) (fun r116 s116 q116 => ?_)
              refine q_iret d_Mod_turn_119 rfl ?_
              exact qn_eq q116 (by unfold sp_turn; (repeat (first | rw [if_pos (by omega)] | rw [if_neg (by omega)])); (try rfl))
            · intro k k0 kk ih σ2 g1 g2
              have hA := (hA1 v (by omega) (by omega)).2.2 (i + j - k) (by omega) (by omega)
              have e186 : σ2 186 (12 * v + i + j - k) = gt (g.P v) (i + j - k) := by rw [g2 186 _ (by omega), show 12 * v + i + j - k = 0 + 12 * v + (i + j - k) by omega]; exact hA.1
              refine r_iload 4 d_Mod_turn_75 rfl ?_
              refine r_iload_n 3 d_Mod_turn_77 rfl rfl ?_
              refine r_icmp_gt 115 d_Mod_turn_78 rfl (by omega) (by omega) (fun h78 => absurd h78 (by omega)) (fun h78 => ?_)
              refine r_aload_n 0 d_Mod_turn_81 rfl rfl ?_
              refine r_getR 183 d_Mod_turn_82 fk_Mod_49 rfl rfl rfl (by decide) ?_
              refine r_bipush d_Mod_turn_85 (by decide) ?_
              refine r_iload_n 1 d_Mod_turn_87 rfl rfl ?_
              refine r_imul d_Mod_turn_88 ?_
              refine r_iload 4 d_Mod_turn_89 rfl ?_
              refine r_iadd d_Mod_turn_91 ?_
              refine r_aload_n 0 d_Mod_turn_92 rfl rfl ?_
              refine r_getR 186 d_Mod_turn_93 fk_Mod_58 rfl rfl rfl (by decide) ?_
              refine r_bipush d_Mod_turn_96 (by decide) ?_
              refine r_iload_n 1 d_Mod_turn_98 rfl rfl ?_
              refine r_imul d_Mod_turn_99 ?_
              refine r_iload_n 2 d_Mod_turn_100 rfl rfl ?_
              refine r_iadd d_Mod_turn_101 ?_
              refine r_iload_n 3 d_Mod_turn_102 rfl rfl ?_
              refine r_iadd d_Mod_turn_103 ?_
              refine r_iload 4 d_Mod_turn_104 rfl ?_
              refine r_isub d_Mod_turn_106 ?_
              refine r_iald 39 d_Mod_turn_107 rfl rfl (by omega) (by omega) ?_
              rw [e186]
              refine r_iast 36 d_Mod_turn_108 rfl rfl (by omega) (by omega) ?_
              refine r_iinc 4 d_Mod_turn_109 rfl (by decide) rfl ?_
              refine r_goto 75 d_Mod_turn_112 rfl ?_
              refine ih _ (fun x x0 x1 => ?_) (fun c x q => by rw [wr_ne (by omega)]; exact g2 c x (by omega))
              by_cases e : x = k
              · rw [e, wr_eq]
              · rw [wr_ne (by omega)]; exact g1 x x0 (by omega)
          exact LT i (Int.le_refl _) (by omega) _ (fun x x0 x1 => by omega) (fun _ _ _ => rfl)
        · refine r_aload_n 0 d_Mod_turn_56 rfl rfl ?_
          refine r_bipush d_Mod_turn_57 (by decide) ?_
          refine r_cVI 8 d_Mod_turn_59 lk_Mod_126 vc_Mod_no (mt_no (by omega)) rfl rfl rfl rfl ⟨Nat.le_of_ble_eq_true rfl, Nat.le_of_ble_eq_true rfl⟩ ⟨Nat.zero_le _, Nat.zero_le _⟩ (Nat.le_of_ble_eq_true rfl) (fun r59 s59 q59 => ?_)
          have q := q59
          refine q_iret d_Mod_turn_62 rfl ?_
          exact qn_no hI MF.rf q (by unfold sp_turn; (repeat (first | rw [if_pos (by omega)] | rw [if_neg (by omega)])); (try rfl))
      · refine r_aload_n 0 d_Mod_turn_44 rfl rfl ?_
        refine r_bipush d_Mod_turn_45 (by decide) ?_
        refine r_cVI 8 d_Mod_turn_47 lk_Mod_126 vc_Mod_no (mt_no (by omega)) rfl rfl rfl rfl ⟨Nat.le_of_ble_eq_true rfl, Nat.le_of_ble_eq_true rfl⟩ ⟨Nat.zero_le _, Nat.zero_le _⟩ (Nat.le_of_ble_eq_true rfl) (fun r47 s47 q47 => ?_)
        have q := q47
        refine q_iret d_Mod_turn_50 rfl ?_
        exact qn_no hI MF.rf q (by unfold sp_turn; (repeat (first | rw [if_pos (by omega)] | rw [if_neg (by omega)])); (try rfl))
theorem cr_cross {σ : sto} {g : G} {v i u j : Int} (hI : RI σ g) (hk : g.ok) (h_v : inR v) (h_i : inR i) (h_u : inR u) (h_j : inR j) : CI M_Mod_cross 14 [vR 169, vI v, vI i, vI u, vI j] σ (QM (sp_cross g v i u j) σ) := by
  obtain ⟨hQ, hE⟩ := id hI
  obtain ⟨hC, hU, h45, hrow, h33, hrf⟩ := id hE
  obtain ⟨k1, k2, k3, k4, k5, k6⟩ := id hk
  have hn := k1.1
  have hRV := k2.rv hn.1 hn.2.1
  refine ci_of [vR 169, vI v, vI i, vI u, vI j, vU, vU, vU] fy_Mod_cross.1 rfl (Nat.le_of_ble_eq_true rfl) ?_
  refine r_aload_n 0 d_Mod_cross_0 rfl rfl ?_
  refine r_iload_n 1 d_Mod_cross_1 rfl rfl ?_
  refine r_cVI 8 d_Mod_cross_2 lk_Mod_165 vc_Mod_isVan (mt_isVan hC.2.1 (by omega) (by omega)) rfl rfl rfl rfl ⟨Nat.le_of_ble_eq_true rfl, Nat.le_of_ble_eq_true rfl⟩ ⟨Nat.zero_le _, Nat.zero_le _⟩ (Nat.le_of_ble_eq_true rfl) (fun r2 s2 q2 => ?_)
  obtain ⟨q2, hs2⟩ := q2
  have hs2 := hs2.symm
  subst hs2
  refine r_if_eq 49 d_Mod_cross_5 rfl (by omega) (fun h5 => ?_) (fun h5 => ?_)
  · refine r_aload_n 0 d_Mod_cross_49 rfl rfl ?_
    refine r_bipush d_Mod_cross_50 (by decide) ?_
    refine r_cVI 8 d_Mod_cross_52 lk_Mod_126 vc_Mod_no (mt_no (by omega)) rfl rfl rfl rfl ⟨Nat.le_of_ble_eq_true rfl, Nat.le_of_ble_eq_true rfl⟩ ⟨Nat.zero_le _, Nat.zero_le _⟩ (Nat.le_of_ble_eq_true rfl) (fun r52 s52 q52 => ?_)
    have q := q52
    refine q_iret d_Mod_cross_55 rfl ?_
    exact qn_no hI MF.rf q (by unfold sp_cross; (repeat (first | rw [if_pos (by omega)] | rw [if_neg (by omega)])); (try rfl))
  · refine r_aload_n 0 d_Mod_cross_8 rfl rfl ?_
    refine r_iload_n 3 d_Mod_cross_9 rfl rfl ?_
    refine r_cVI 8 d_Mod_cross_10 lk_Mod_165 vc_Mod_isVan (mt_isVan hC.2.1 (by omega) (by omega)) rfl rfl rfl rfl ⟨Nat.le_of_ble_eq_true rfl, Nat.le_of_ble_eq_true rfl⟩ ⟨Nat.zero_le _, Nat.zero_le _⟩ (Nat.le_of_ble_eq_true rfl) (fun r10 s10 q10 => ?_)
    obtain ⟨q10, hs10⟩ := q10
    have hs10 := hs10.symm
    subst hs10
    refine r_if_eq 49 d_Mod_cross_13 rfl (by omega) (fun h13 => ?_) (fun h13 => ?_)
    · refine r_aload_n 0 d_Mod_cross_49 rfl rfl ?_
      refine r_bipush d_Mod_cross_50 (by decide) ?_
      refine r_cVI 8 d_Mod_cross_52 lk_Mod_126 vc_Mod_no (mt_no (by omega)) rfl rfl rfl rfl ⟨Nat.le_of_ble_eq_true rfl, Nat.le_of_ble_eq_true rfl⟩ ⟨Nat.zero_le _, Nat.zero_le _⟩ (Nat.le_of_ble_eq_true rfl) (fun r52 s52 q52 => ?_)
      have q := q52
      refine q_iret d_Mod_cross_55 rfl ?_
      exact qn_no hI MF.rf q (by unfold sp_cross; (repeat (first | rw [if_pos (by omega)] | rw [if_neg (by omega)])); (try rfl))
    · have hz := hQ.len (v := v) (by omega) (by omega)
      have hzu := hQ.len (v := u) (by omega) (by omega)
      refine r_iload_n 2 d_Mod_cross_16 rfl rfl ?_
      refine r_i2l d_Mod_cross_17 (by omega) ?_
      refine r_lconst (z := 0) d_Mod_cross_18 (by decide) ?_
      refine r_aload_n 0 d_Mod_cross_19 rfl rfl ?_
      refine r_getR 184 d_Mod_cross_20 fk_Mod_52 rfl rfl rfl (by decide) ?_
      refine r_iload_n 1 d_Mod_cross_23 rfl rfl ?_
      refine r_iald 3 d_Mod_cross_24 rfl rfl (by omega) (by omega) ?_
      rw [hz.1]
      refine r_i2l d_Mod_cross_25 (by omega) ?_
      refine r_cSI d_Mod_cross_26 lk_Mod_122 sc_Mod_isIn (mt_isIn (by omega) (by omega) (by omega)) rfl rfl ⟨Nat.le_of_ble_eq_true rfl, Nat.le_of_ble_eq_true rfl⟩ ⟨Nat.zero_le _, Nat.zero_le _⟩ (Nat.le_of_ble_eq_true rfl) (fun r26 s26 q26 => ?_)
      obtain ⟨q26, hs26⟩ := q26
      have hs26 := hs26.symm
      subst hs26
      refine r_if_eq 49 d_Mod_cross_29 rfl (by omega) (fun h29 => ?_) (fun h29 => ?_)
      · refine r_aload_n 0 d_Mod_cross_49 rfl rfl ?_
        refine r_bipush d_Mod_cross_50 (by decide) ?_
        refine r_cVI 8 d_Mod_cross_52 lk_Mod_126 vc_Mod_no (mt_no (by omega)) rfl rfl rfl rfl ⟨Nat.le_of_ble_eq_true rfl, Nat.le_of_ble_eq_true rfl⟩ ⟨Nat.zero_le _, Nat.zero_le _⟩ (Nat.le_of_ble_eq_true rfl) (fun r52 s52 q52 => ?_)
        have q := q52
        refine q_iret d_Mod_cross_55 rfl ?_
        exact qn_no hI MF.rf q (by unfold sp_cross; (repeat (first | rw [if_pos (by omega)] | rw [if_neg (by omega)])); (try rfl))
      · refine r_iload 4 d_Mod_cross_32 rfl ?_
        refine r_i2l d_Mod_cross_34 (by omega) ?_
        refine r_lconst (z := 0) d_Mod_cross_35 (by decide) ?_
        refine r_aload_n 0 d_Mod_cross_36 rfl rfl ?_
        refine r_getR 184 d_Mod_cross_37 fk_Mod_52 rfl rfl rfl (by decide) ?_
        refine r_iload_n 3 d_Mod_cross_40 rfl rfl ?_
        refine r_iald 3 d_Mod_cross_41 rfl rfl (by omega) (by omega) ?_
        rw [hzu.1]
        refine r_i2l d_Mod_cross_42 (by omega) ?_
        refine r_cSI d_Mod_cross_43 lk_Mod_122 sc_Mod_isIn (mt_isIn (by omega) (by omega) (by omega)) rfl rfl ⟨Nat.le_of_ble_eq_true rfl, Nat.le_of_ble_eq_true rfl⟩ ⟨Nat.zero_le _, Nat.zero_le _⟩ (Nat.le_of_ble_eq_true rfl) (fun r43 s43 q43 => ?_)
        obtain ⟨q43, hs43⟩ := q43
        have hs43 := hs43.symm
        subst hs43
        refine r_if_ne 56 d_Mod_cross_46 rfl (by omega) (fun h46 => ?_) (fun h46 => ?_)
        · refine r_iload_n 1 d_Mod_cross_56 rfl rfl ?_
          refine r_iload_n 3 d_Mod_cross_57 rfl rfl ?_
          refine r_icmp_ne 68 d_Mod_cross_58 rfl (by omega) (by omega) (fun h58 => ?_) (fun h58 => ?_)
          · have s2 := sz2 (P := g.P) (v := v) (u := u) (by omega) (by omega) (by omega) (by omega) h58
            have sz := k2.size hn.1
            have pc := k2.cross hn.2.2.2 (v := v) (u := u) (i := i) (j := j) (by omega) (by omega) (by omega) (by omega) h58 (by omega) (by omega) (by omega) (by omega)
            refine r_aload_n 0 d_Mod_cross_68 rfl rfl ?_
            refine r_aload_n 0 d_Mod_cross_69 rfl rfl ?_
            refine r_getR 186 d_Mod_cross_70 fk_Mod_58 rfl rfl rfl (by decide) ?_
            refine r_iconst d_Mod_cross_73 ?_
            refine r_cVV 8 d_Mod_cross_74 lk_Mod_231 vc_Mod_keeps (mt_keeps (n := 39) rfl rfl (Int.le_refl _) (by omega) (by omega) (by omega)) rfl rfl rfl rfl ⟨Nat.le_of_ble_eq_true rfl, Nat.le_of_ble_eq_true rfl⟩ ⟨Nat.zero_le _, Nat.zero_le _⟩ (Nat.le_of_ble_eq_true rfl) (fun s74 q74 => ?_)
            obtain ⟨t1, t2, t3⟩ := q74
            have hA1 : AP s74 186 0 g.P := AP.of hQ t1 t2
            have hQ1 := hQ.keep (σ' := s74) (fun c i q => t3 c i (by omega))
            have hE1 := hE.keep (σ' := s74) (fun c i q => t3 c i (by omega))
            have hF1 : MF σ s74 := fun c i q => t3 c i (by omega)
            have hz1 := hQ1.len (v := v) (by omega) (by omega)
            have hzu1 := hQ1.len (v := u) (by omega) (by omega)
            refine r_aload_n 0 d_Mod_cross_77 rfl rfl ?_
            refine r_getR 184 d_Mod_cross_78 fk_Mod_52 rfl rfl rfl (by decide) ?_
            refine r_iload_n 1 d_Mod_cross_81 rfl rfl ?_
            refine r_iald 3 d_Mod_cross_82 rfl rfl (by omega) (by omega) ?_
            rw [hz1.1]
            refine r_iload_n 2 d_Mod_cross_83 rfl rfl ?_
            refine r_isub d_Mod_cross_84 ?_
            refine r_istore 5 d_Mod_cross_85 (by decide) rfl ?_
            refine r_aload_n 0 d_Mod_cross_87 rfl rfl ?_
            refine r_getR 184 d_Mod_cross_88 fk_Mod_52 rfl rfl rfl (by decide) ?_
            refine r_iload_n 3 d_Mod_cross_91 rfl rfl ?_
            refine r_iald 3 d_Mod_cross_92 rfl rfl (by omega) (by omega) ?_
            rw [hzu1.1]
            refine r_iload 4 d_Mod_cross_93 rfl ?_
            refine r_isub d_Mod_cross_95 ?_
            refine r_istore 6 d_Mod_cross_96 (by decide) rfl ?_
            refine r_iconst d_Mod_cross_98 ?_
            refine r_istore 7 d_Mod_cross_99 (by decide) rfl ?_
            have L2 : ∀ k, 0 ≤ k → k ≤ ln (g.P v) - i → ∀ σ2 : sto, (∀ x, 0 ≤ x → x < ln (g.P u) - j → σ2 183 (12 * v + i + x) = gt (g.P u) (j + x)) → (∀ x, 0 ≤ x → x < k → σ2 183 (12 * u + j + x) = gt (g.P v) (i + x)) → (∀ c x : Int, (c ≠ 183 ∨ (x < 12 * v + i ∨ 12 * v + i + (ln (g.P u) - j) ≤ x) ∧ (x < 12 * u + j ∨ 12 * u + j + k ≤ x)) → σ2 c x = s74 c x) → Run M_Mod_cross (rxI 14 (QM (sp_cross g v i u j) σ)) (0, 0) 146 [vR 169, vI v, vI i, vI u, vI j, vI (ln (g.P v) - i), vI (ln (g.P u) - j), vI k] [] (sg σ2) := by
              refine up_ind (b := ln (g.P v) - i) ?_ ?_
              · intro σ2 g1 g2 g3
                have b1 : RA (wr (wr σ2 184 v (i + (ln (g.P u) - j))) 184 u (j + (ln (g.P v) - i))) (up (up g.P v (endA (g.P v) i (g.P u) j)) u (endA (g.P u) j (g.P v) i)) := by
                  intro w w0 w1
                  by_cases eu : w = u
                  · rw [eu, up_eq, wr_eq, ln_end (by omega) (by omega)]
                    refine ⟨rfl, by omega, fun x x0 x1 => ?_⟩
                    rw [wr_ne (by omega), wr_ne (by omega), gt_end x0 x1]
                    by_cases e : x < j
                    · rw [if_pos e, g3 183 _ (by omega)]; exact hQ1.el (by omega) (by omega) x0 (by omega)
                    · have := g2 (x - j) (by omega) (by omega)
                      rw [show 12 * u + j + (x - j) = 12 * u + x by omega] at this
                      rw [if_neg e, this]; exact ⟨rfl, (hQ1.el (v := v) (by omega) (by omega) (show 0 ≤ i + (x - j) by omega) (by omega)).2⟩
                  · rw [up_ne eu, wr_ne (by omega)]
                    by_cases ev : w = v
                    · rw [ev, up_eq, wr_eq, ln_end (by omega) (by omega)]
                      refine ⟨rfl, by omega, fun x x0 x1 => ?_⟩
                      rw [wr_ne (by omega), wr_ne (by omega), gt_end x0 x1]
                      by_cases e : x < i
                      · rw [if_pos e, g3 183 _ (by omega)]; exact hQ1.el (by omega) (by omega) x0 (by omega)
                      · have := g1 (x - i) (by omega) (by omega)
                        rw [show 12 * v + i + (x - i) = 12 * v + x by omega] at this
                        rw [if_neg e, this]; exact ⟨rfl, (hQ1.el (v := u) (by omega) (by omega) (show 0 ≤ j + (x - i) by omega) (by omega)).2⟩
                    · rw [up_ne ev, wr_ne (by omega)]
                      obtain ⟨y1, y2, y3⟩ := hQ1 w w0 w1
                      exact ⟨by rw [g3 184 w (by omega)]; exact y1, y2, fun x x0 x1 => by rw [wr_ne (by omega), wr_ne (by omega), g3 183 _ (by omega)]; exact y3 x x0 x1⟩
                have gF : ∀ c x : Int, c ≠ 183 → c ≠ 184 → wr (wr σ2 184 v (i + (ln (g.P u) - j))) 184 u (j + (ln (g.P v) - i)) c x = s74 c x := fun c x q1 q2 => by rw [wr_ne (by omega), wr_ne (by omega)]; exact g3 c x (by omega)
                have hE2 := hE1.keep (fun c i q => gF c i (by omega) (by omega))
                have hA2 : AP (wr (wr σ2 184 v (i + (ln (g.P u) - j))) 184 u (j + (ln (g.P v) - i))) 186 0 g.P := hA1.keep (fun k _ _ => gF 186 k (by omega) (by omega))
                have hF2 : MF σ (wr (wr σ2 184 v (i + (ln (g.P u) - j))) 184 u (j + (ln (g.P v) - i))) := hF1.tr (fun c i q => gF c i (by omega) (by omega))
                refine r_iload 7 d_Mod_cross_146 rfl ?_
                refine r_iload 5 d_Mod_cross_148 rfl ?_
                refine r_icmp_ge 188 d_Mod_cross_150 rfl (by omega) (by omega) (fun h150 => ?_) (fun h150 => absurd h150 (by omega))
                refine r_aload_n 0 d_Mod_cross_188 rfl rfl ?_
                refine r_getR 184 d_Mod_cross_189 fk_Mod_52 rfl rfl rfl (by decide) ?_
                refine r_iload_n 1 d_Mod_cross_192 rfl rfl ?_
                refine r_iload_n 2 d_Mod_cross_193 rfl rfl ?_
                refine r_iload 6 d_Mod_cross_194 rfl ?_
                refine r_iadd d_Mod_cross_196 ?_
                refine r_iast 3 d_Mod_cross_197 rfl rfl (by omega) (by omega) ?_
                refine r_aload_n 0 d_Mod_cross_198 rfl rfl ?_
                refine r_getR 184 d_Mod_cross_199 fk_Mod_52 rfl rfl rfl (by decide) ?_
                refine r_iload_n 3 d_Mod_cross_202 rfl rfl ?_
                refine r_iload 4 d_Mod_cross_203 rfl ?_
                refine r_iload 5 d_Mod_cross_205 rfl ?_
                refine r_iadd d_Mod_cross_207 ?_
                refine r_iast 3 d_Mod_cross_208 rfl rfl (by omega) (by omega) ?_
                refine r_aload_n 0 d_Mod_cross_209 rfl rfl ?_
                refine r_cVI 8 d_Mod_cross_210 lk_Mod_234 vc_Mod_settles (mt_settles hk hE2 hA2 b1 pc hF2) rfl rfl rfl rfl ⟨Nat.le_of_ble_eq_true rfl, Nat.le_of_ble_eq_true rfl⟩ ⟨Nat.zero_le _, Nat.zero_le _⟩ (Nat.le_of_ble_eq_true rfl) (fun r210 s210 q210 => ?_)
                refine q_iret d_Mod_cross_213 rfl ?_
                exact qn_eq q210 (by unfold sp_cross; (repeat (first | rw [if_pos (by omega)] | rw [if_neg (by omega)])); (try rfl))
              · intro k k0 kk ih σ2 g1 g2 g3
                have hA := (hA1 v (by omega) (by omega)).2.2 (i + k) (by omega) (by omega)
                have e186 : σ2 186 (12 * v + i + k) = gt (g.P v) (i + k) := by rw [g3 186 _ (by omega), show 12 * v + i + k = 0 + 12 * v + (i + k) by omega]; exact hA.1
                refine r_iload 7 d_Mod_cross_146 rfl ?_
                refine r_iload 5 d_Mod_cross_148 rfl ?_
                refine r_icmp_ge 188 d_Mod_cross_150 rfl (by omega) (by omega) (fun h150 => absurd h150 (by omega)) (fun h150 => ?_)
                refine r_aload_n 0 d_Mod_cross_153 rfl rfl ?_
                refine r_getR 183 d_Mod_cross_154 fk_Mod_49 rfl rfl rfl (by decide) ?_
                refine r_bipush d_Mod_cross_157 (by decide) ?_
                refine r_iload_n 3 d_Mod_cross_159 rfl rfl ?_
                refine r_imul d_Mod_cross_160 ?_
                refine r_iload 4 d_Mod_cross_161 rfl ?_
                refine r_iadd d_Mod_cross_163 ?_
                refine r_iload 7 d_Mod_cross_164 rfl ?_
                refine r_iadd d_Mod_cross_166 ?_
                refine r_aload_n 0 d_Mod_cross_167 rfl rfl ?_
                refine r_getR 186 d_Mod_cross_168 fk_Mod_58 rfl rfl rfl (by decide) ?_
                refine r_bipush d_Mod_cross_171 (by decide) ?_
                refine r_iload_n 1 d_Mod_cross_173 rfl rfl ?_
                refine r_imul d_Mod_cross_174 ?_
                refine r_iload_n 2 d_Mod_cross_175 rfl rfl ?_
                refine r_iadd d_Mod_cross_176 ?_
                refine r_iload 7 d_Mod_cross_177 rfl ?_
                refine r_iadd d_Mod_cross_179 ?_
                refine r_iald 39 d_Mod_cross_180 rfl rfl (by omega) (by omega) ?_
                rw [e186]
                refine r_iast 36 d_Mod_cross_181 rfl rfl (by omega) (by omega) ?_
                refine r_iinc 7 d_Mod_cross_182 rfl (by decide) rfl ?_
                refine r_goto 146 d_Mod_cross_185 rfl ?_
                refine ih _ (fun x x0 x1 => by rw [wr_ne (by omega)]; exact g1 x x0 x1) (fun x x0 x1 => ?_) (fun c x q => by rw [wr_ne (by omega)]; exact g3 c x (by omega))
                by_cases e : x = k
                · rw [e, wr_eq]
                · rw [wr_ne (by omega)]; exact g2 x x0 (by omega)
            have L1 : ∀ k, 0 ≤ k → k ≤ ln (g.P u) - j → ∀ σ2 : sto, (∀ x, 0 ≤ x → x < k → σ2 183 (12 * v + i + x) = gt (g.P u) (j + x)) → (∀ c x : Int, (c ≠ 183 ∨ x < 12 * v + i ∨ 12 * v + i + k ≤ x) → σ2 c x = s74 c x) → Run M_Mod_cross (rxI 14 (QM (sp_cross g v i u j) σ)) (0, 0) 101 [vR 169, vI v, vI i, vI u, vI j, vI (ln (g.P v) - i), vI (ln (g.P u) - j), vI k] [] (sg σ2) := by
              refine up_ind (b := ln (g.P u) - j) ?_ ?_
              · intro σ2 g1 g3
                refine r_iload 7 d_Mod_cross_101 rfl ?_
                refine r_iload 6 d_Mod_cross_103 rfl ?_
                refine r_icmp_ge 143 d_Mod_cross_105 rfl (by omega) (by omega) (fun h105 => ?_) (fun h105 => absurd h105 (by omega))
                refine r_iconst d_Mod_cross_143 ?_
                refine r_istore 7 d_Mod_cross_144 (by decide) rfl ?_
                exact L2 0 (by omega) (by omega) σ2 g1 (fun x x0 x1 => by omega) (fun c x q => g3 c x (by omega))
              · intro k k0 kk ih σ2 g1 g3
                have hA := (hA1 u (by omega) (by omega)).2.2 (j + k) (by omega) (by omega)
                have e186 : σ2 186 (12 * u + j + k) = gt (g.P u) (j + k) := by rw [g3 186 _ (by omega), show 12 * u + j + k = 0 + 12 * u + (j + k) by omega]; exact hA.1
                refine r_iload 7 d_Mod_cross_101 rfl ?_
                refine r_iload 6 d_Mod_cross_103 rfl ?_
                refine r_icmp_ge 143 d_Mod_cross_105 rfl (by omega) (by omega) (fun h105 => absurd h105 (by omega)) (fun h105 => ?_)
                refine r_aload_n 0 d_Mod_cross_108 rfl rfl ?_
                refine r_getR 183 d_Mod_cross_109 fk_Mod_49 rfl rfl rfl (by decide) ?_
                refine r_bipush d_Mod_cross_112 (by decide) ?_
                refine r_iload_n 1 d_Mod_cross_114 rfl rfl ?_
                refine r_imul d_Mod_cross_115 ?_
                refine r_iload_n 2 d_Mod_cross_116 rfl rfl ?_
                refine r_iadd d_Mod_cross_117 ?_
                refine r_iload 7 d_Mod_cross_118 rfl ?_
                refine r_iadd d_Mod_cross_120 ?_
                refine r_aload_n 0 d_Mod_cross_121 rfl rfl ?_
                refine r_getR 186 d_Mod_cross_122 fk_Mod_58 rfl rfl rfl (by decide) ?_
                refine r_bipush d_Mod_cross_125 (by decide) ?_
                refine r_iload_n 3 d_Mod_cross_127 rfl rfl ?_
                refine r_imul d_Mod_cross_128 ?_
                refine r_iload 4 d_Mod_cross_129 rfl ?_
                refine r_iadd d_Mod_cross_131 ?_
                refine r_iload 7 d_Mod_cross_132 rfl ?_
                refine r_iadd d_Mod_cross_134 ?_
                refine r_iald 39 d_Mod_cross_135 rfl rfl (by omega) (by omega) ?_
                rw [e186]
                refine r_iast 36 d_Mod_cross_136 rfl rfl (by omega) (by omega) ?_
                refine r_iinc 7 d_Mod_cross_137 rfl (by decide) rfl ?_
                refine r_goto 101 d_Mod_cross_140 rfl ?_
                refine ih _ (fun x x0 x1 => ?_) (fun c x q => by rw [wr_ne (by omega)]; exact g3 c x (by omega))
                by_cases e : x = k
                · rw [e, wr_eq]
                · rw [wr_ne (by omega)]; exact g1 x x0 (by omega)
            exact L1 0 (by omega) (by omega) _ (fun x x0 x1 => by omega) (fun _ _ _ => rfl)
          · refine r_aload_n 0 d_Mod_cross_61 rfl rfl ?_
            refine r_bipush d_Mod_cross_62 (by decide) ?_
            refine r_cVI 8 d_Mod_cross_64 lk_Mod_126 vc_Mod_no (mt_no (by omega)) rfl rfl rfl rfl ⟨Nat.le_of_ble_eq_true rfl, Nat.le_of_ble_eq_true rfl⟩ ⟨Nat.zero_le _, Nat.zero_le _⟩ (Nat.le_of_ble_eq_true rfl) (fun r64 s64 q64 => ?_)
            have q := q64
            refine q_iret d_Mod_cross_67 rfl ?_
            exact qn_no hI MF.rf q (by unfold sp_cross; (repeat (first | rw [if_pos (by omega)] | rw [if_neg (by omega)])); (try rfl))
        · refine r_aload_n 0 d_Mod_cross_49 rfl rfl ?_
          refine r_bipush d_Mod_cross_50 (by decide) ?_
          refine r_cVI 8 d_Mod_cross_52 lk_Mod_126 vc_Mod_no (mt_no (by omega)) rfl rfl rfl rfl ⟨Nat.le_of_ble_eq_true rfl, Nat.le_of_ble_eq_true rfl⟩ ⟨Nat.zero_le _, Nat.zero_le _⟩ (Nat.le_of_ble_eq_true rfl) (fun r52 s52 q52 => ?_)
          have q := q52
          refine q_iret d_Mod_cross_55 rfl ?_
          exact qn_no hI MF.rf q (by unfold sp_cross; (repeat (first | rw [if_pos (by omega)] | rw [if_neg (by omega)])); (try rfl))
