-- THE REFERENCE: counts and rows (walks written by wip/whole/gen_rp3.py)
-- how many of the stops below n that stand in a list are of a sort
theorem if_cgr {c d : Prop} [Decidable c] [Decidable d] {a b : Int} (h : c ↔ d) : (if c then a else b) = if d then a else b := by
  by_cases q : c
  · rw [if_pos q, if_pos (h.mp q)]
  · rw [if_neg q, if_neg (fun z => q (h.mpr z))]
def inN (p : Int → Bool) (l : List Int) : Nat → Int
  | 0 => 0
  | n + 1 => inN p l n + (if p n = true ∧ (n : Int) ∈ l then 1 else 0)
def cntB (p : Int → Bool) : List Int → Int
  | [] => 0
  | a :: l => cntB p l + (if p a = true then 1 else 0)
theorem inN_nil (p : Int → Bool) : ∀ n, inN p [] n = 0 := by
  intro n
  induction n with
  | zero => rfl
  | succ n ih =>
    show inN p [] n + _ = 0
    rw [ih, if_neg (fun q => by cases q.2)]; rfl
theorem inN_cons (p : Int → Bool) {a : Int} {l : List Int} (h : a ∉ l) : ∀ n : Nat, inN p (a :: l) n = inN p l n + (if p a = true ∧ 0 ≤ a ∧ a < n then 1 else 0) := by
  intro n
  induction n with
  | zero =>
    show (0 : Int) = 0 + _
    rw [if_neg (by omega)]; rfl
  | succ n ih =>
    show inN p (a :: l) n + _ = inN p l n + _ + _
    rw [ih]
    by_cases e : (n : Int) = a
    · have h1 : ¬ (p a = true ∧ 0 ≤ a ∧ a < n) := by omega
      have h2 : ¬ (p n = true ∧ (n : Int) ∈ l) := fun q => h (by rw [← e]; exact q.2)
      rw [if_neg h1, if_neg h2]
      by_cases q : p a = true
      · rw [if_pos ⟨by rw [e]; exact q, by rw [e]; exact List.mem_cons_self⟩, if_pos ⟨q, by omega, by omega⟩]; (try omega)
      · rw [if_neg (fun z => q (by rw [← e]; exact z.1)), if_neg (fun z => q z.1)]; (try omega)
    · have h1 : (p n = true ∧ (n : Int) ∈ a :: l) ↔ (p n = true ∧ (n : Int) ∈ l) := by
        rw [List.mem_cons]
        exact ⟨fun q => ⟨q.1, q.2.resolve_left e⟩, fun q => ⟨q.1, Or.inr q.2⟩⟩
      have h2 : (p a = true ∧ 0 ≤ a ∧ a < ((n + 1 : Nat) : Int)) ↔ (p a = true ∧ 0 ≤ a ∧ a < (n : Int)) := ⟨fun q => ⟨q.1, q.2.1, by omega⟩, fun q => ⟨q.1, q.2.1, by omega⟩⟩
      rw [if_cgr h1, if_cgr h2]; omega
theorem inN_all (p : Int → Bool) {n : Nat} : ∀ {l : List Int}, l.Nodup → (∀ s ∈ l, 0 ≤ s ∧ s < n) → inN p l n = cntB p l := by
  intro l
  induction l with
  | nil => intro _ _; exact inN_nil p n
  | cons a l ih =>
    intro hd hm
    have hd2 := List.nodup_cons.mp hd
    have ha := hm a List.mem_cons_self
    rw [inN_cons p hd2.1, ih hd2.2 (fun s hs => hm s (List.mem_cons_of_mem _ hs))]
    show cntB p l + _ = cntB p l + _
    congr 1
    exact if_cgr ⟨fun q => q.1, fun q => ⟨q, ha⟩⟩
theorem cntB_app (p : Int → Bool) (a b : List Int) : cntB p (a ++ b) = cntB p a + cntB p b := by
  induction a with
  | nil => show cntB p b = 0 + cntB p b; omega
  | cons x a ih => show cntB p (a ++ b) + _ = cntB p a + _ + cntB p b; rw [ih]; omega
theorem cntB_t (l : List Int) : cntB (fun _ => true) l = ln l := by
  induction l with
  | nil => rfl
  | cons x a ih => show cntB (fun _ => true) a + _ = _; rw [ih, ln_cons, if_pos rfl]
abbrev isM (D : sto) : Int → Bool := fun s => decide (D 0 s = 4)
theorem mc_cnt (D : sto) (l : List Int) : mc D l (ln l) = cntB (isM D) l := by
  have key : ∀ n : Nat, n ≤ l.length → mcN D l n = cntB (isM D) (l.take n) := by
    intro n
    induction n with
    | zero => intro _; rw [List.take_zero]; rfl
    | succ n ih =>
      intro hn
      have e : l.take (n + 1) = l.take n ++ [gt l n] := by
        rw [List.take_succ_eq_append_getElem (by omega)]
        congr 2
        unfold gt
        rw [List.getD_eq_getElem?_getD, List.getElem?_eq_getElem (by omega)]
        rfl
      rw [e, cntB_app, ← ih (by omega)]
      show _ = mcN D l n + (0 + _)
      rw [Int.zero_add]
      show mcN D l n + _ = mcN D l n + _
      congr 1
      exact if_cgr ⟨fun q => decide_eq_true q, fun q => of_decide_eq_true q⟩
  have := key l.length (Nat.le_refl _)
  rw [List.take_length] at this
  exact this
theorem mp_cnt {D : sto} {ns nv : Int} {P : pln} (hn : 0 ≤ nv ∧ nv ≤ 3) (h : PO ns nv P) : mp D P nv = cntB (isM D) (al3 P) := by
  have e3 : mp D P 3 = cntB (isM D) (al3 P) := by
    show 0 + mc D (P 0) (ln (P 0)) + mc D (P 1) (ln (P 1)) + mc D (P 2) (ln (P 2)) = _
    unfold al3
    rw [cntB_app, cntB_app, mc_cnt, mc_cnt, mc_cnt]; omega
  have z : ∀ v, nv ≤ v → 0 ≤ v → v < 3 → mc D (P v) (ln (P v)) = 0 := fun v q0 q1 q2 => by rw [h.2.2 v q0 q1 q2]; rfl
  have s0 : mp D P 1 = mp D P 0 + mc D (P 0) (ln (P 0)) := mp_s (v := 0) (by omega)
  have s1 : mp D P 2 = mp D P 1 + mc D (P 1) (ln (P 1)) := mp_s (v := 1) (by omega)
  have s2 : mp D P 3 = mp D P 2 + mc D (P 2) (ln (P 2)) := mp_s (v := 2) (by omega)
  rw [← e3]
  rcases (show nv = 0 ∨ nv = 1 ∨ nv = 2 ∨ nv = 3 by omega) with rfl | rfl | rfl | rfl
  · have := z 0 (by omega) (by omega) (by omega); have := z 1 (by omega) (by omega) (by omega); have := z 2 (by omega) (by omega) (by omega); omega
  · have := z 1 (by omega) (by omega) (by omega); have := z 2 (by omega) (by omega) (by omega); omega
  · have := z 2 (by omega) (by omega) (by omega); omega
  · rfl
theorem inN_s {p : Int → Bool} {l : List Int} {s : Int} (h : 0 ≤ s) : inN p l (s + 1).toNat = inN p l s.toNat + (if p s = true ∧ s ∈ l then 1 else 0) := by
  rw [show (s + 1).toNat = s.toNat + 1 by omega]
  show inN p l s.toNat + (if p ((s.toNat : Nat) : Int) = true ∧ ((s.toNat : Nat) : Int) ∈ l then 1 else 0) = _
  rw [show ((s.toNat : Nat) : Int) = s by omega]
theorem mst_s {D : sto} {s : Int} (h : 0 ≤ s) : mstN D (s + 1).toNat = mstN D s.toNat + (if D 0 s = 4 then 1 else 0) := by
  rw [show (s + 1).toNat = s.toNat + 1 by omega]
  show mstN D s.toNat + (if D 0 ((s.toNat : Nat) : Int) = 4 then 1 else 0) = _
  rw [show ((s.toNat : Nat) : Int) = s by omega]
theorem PO.inN {D : sto} {ns nv : Int} {P : pln} (h0 : 0 ≤ ns) (hn : 0 ≤ nv ∧ nv ≤ 3) (h : PO ns nv P) : inN (isM D) (al3 P) ns.toNat = mp D P nv ∧ Jvm.Pilot.CVanRoundsLaw_law_r5163_1a4499.inN (fun _ => true) (al3 P) ns.toNat = szP P := by
  have e : ∀ s ∈ al3 P, 0 ≤ s ∧ s < ((ns.toNat : Nat) : Int) := fun s hs => by have := h.2.1 s hs; omega
  exact ⟨by rw [inN_all _ h.1 e, mp_cnt hn h], by rw [inN_all _ h.1 e, cntB_t]; exact len_al3 P⟩
theorem mt_minutes {σ : sto} {g : G} {b : Int} (hI : RI σ g) (hk : g.ok) (hb : b = 0 ∨ b = 1) : CI M_Mod_minutes 6 [vR 169, vI b] σ (fun r σ' => r = (if b = 0 then wtAll g.D g.P g.nv.toNat else ltAll g.D g.P g.nv.toNat) ∧ RF σ σ') := by
  obtain ⟨hQ, hE⟩ := id hI
  obtain ⟨hC, hU, h45, hrow, h33, hrf⟩ := id hE
  obtain ⟨k1, k2, k3, k4, k5, k6⟩ := id hk
  have hn := k1.1
  have hRV := k2.rv hn.1 hn.2.1
  have key : ∀ v, 0 ≤ v → v ≤ g.nv → ∀ (σ1 : sto) (x : Int), RF σ σ1 → x = (if b = 0 then wtAll g.D g.P v.toNat else ltAll g.D g.P v.toNat) → Run M_Mod_minutes (rxI 6 (fun r σ' => r = (if b = 0 then wtAll g.D g.P g.nv.toNat else ltAll g.D g.P g.nv.toNat) ∧ RF σ σ')) (0, 0) 4 [vR 169, vI b, vI x, vI v, vU, vU, vU] [] (sg σ1) := by
    refine up_ind (b := g.nv) ?_ ?_
    · intro σ1 x hR hx
      have h14 := (hR.dr hC).2.1
      refine r_iload_n 3 d_Mod_minutes_4 rfl rfl ?_
      refine r_aload_n 0 d_Mod_minutes_5 rfl rfl ?_
      refine r_getI 14 d_Mod_minutes_6 fk_Mod_105 rfl rfl rfl ?_
      rw [h14]
      refine r_icmp_ge 120 d_Mod_minutes_9 rfl (by omega) (by omega) (fun h9 => ?_) (fun h9 => absurd h9 (by omega))
      refine r_iload_n 2 d_Mod_minutes_120 rfl rfl ?_
      refine q_iret d_Mod_minutes_121 rfl ?_
      exact ⟨hx, hR⟩
    · intro v v0 v1 ih σ1 x hR hx
      have h14 := (hR.dr hC).2.1
      have hlv := hRV v v0 (by omega)
      have hw0 := k3 v v0 v1
      refine r_iload_n 3 d_Mod_minutes_4 rfl rfl ?_
      refine r_aload_n 0 d_Mod_minutes_5 rfl rfl ?_
      refine r_getI 14 d_Mod_minutes_6 fk_Mod_105 rfl rfl rfl ?_
      rw [h14]
      refine r_icmp_ge 120 d_Mod_minutes_9 rfl (by omega) (by omega) (fun h9 => absurd h9 (by omega)) (fun h9 => ?_)
      refine r_aload_n 0 d_Mod_minutes_12 rfl rfl ?_
      refine r_iload_n 3 d_Mod_minutes_13 rfl rfl ?_
      refine r_cVI 8 d_Mod_minutes_14 lk_Mod_201 vc_Mod_fits (mt_fits (hR.dr hC) k1 (hR.ra hQ) v0 v1 hlv) rfl rfl rfl rfl ⟨Nat.le_of_ble_eq_true rfl, Nat.le_of_ble_eq_true rfl⟩ ⟨Nat.zero_le _, Nat.zero_le _⟩ (Nat.le_of_ble_eq_true rfl) (fun r14 s14 q14 => ?_)
      obtain ⟨qa, -, -, qR⟩ := q14
      have hN := (qa.resolve_right (fun q => q.2 hw0)).2.2
      have hR2 := hR.tr qR
      have hQ2 := hR2.ra hQ
      have hC2 := hR2.dr hC
      have hz := hQ2.len v0 (show v < 3 by omega)
      refine r_istore 4 d_Mod_minutes_17 (by decide) rfl ?_
      refine r_iconst d_Mod_minutes_19 ?_
      refine r_istore 5 d_Mod_minutes_20 (by decide) rfl ?_
      have LI : ∀ i, 0 ≤ i → i ≤ ln (g.P v) → ∀ y, y = x + (if b = 0 then wt g.D v (g.P v) i else lt9 g.D v (g.P v) i) → Run M_Mod_minutes (rxI 6 (fun r σ' => r = (if b = 0 then wtAll g.D g.P g.nv.toNat else ltAll g.D g.P g.nv.toNat) ∧ RF σ σ')) (0, 0) 22 [vR 169, vI b, vI y, vI v, vI r14, vI i, vU] [] (sg s14) := by
        refine up_ind (b := ln (g.P v)) ?_ ?_
        · intro y hy
          refine r_iload 5 d_Mod_minutes_22 rfl ?_
          refine r_aload_n 0 d_Mod_minutes_24 rfl rfl ?_
          refine r_getR 184 d_Mod_minutes_25 fk_Mod_52 rfl rfl rfl (by decide) ?_
          refine r_iload_n 3 d_Mod_minutes_28 rfl rfl ?_
          refine r_iald 3 d_Mod_minutes_29 rfl rfl (by omega) (by omega) ?_
          rw [hz.1]
          refine r_icmp_ge 114 d_Mod_minutes_30 rfl (by omega) (by omega) (fun h30 => ?_) (fun h30 => absurd h30 (by omega))
          refine r_iinc 3 d_Mod_minutes_114 rfl (by decide) rfl ?_
          refine r_goto 4 d_Mod_minutes_117 rfl ?_
          refine r_drop 4 (r_drop 5 (ih _ y hR2 ?_))
          have e1 := wtAll_s (D := g.D) (P := g.P) v0
          have e2 := ltAll_s (D := g.D) (P := g.P) v0
          by_cases q : b = 0
          · rw [if_pos q] at hx hy ⊢; omega
          · rw [if_neg q] at hx hy ⊢; omega
        · intro i i0 i1 ihi y hy
          have he := hQ2.el v0 (show v < 3 by omega) i0 i1
          have hNi := (hN.2 (by omega)).2 i i0 i1
          have hs := hlv.2 i i0 i1
          have hat := hC2.at (s := gt (g.P v) i) hs.1 (by omega)
          have hds := k1.2.1 _ hs.1 hs.2
          have h3 := why_0 hw0
          have hp : ∀ j, 0 ≤ j → j < i → pr3 g.D v (g.P v) j = false := fun j j0 j1 => by
            rcases h3 with e | ⟨-, -, -, -, e, -⟩
            · omega
            · exact fst1_lt (n := ln (g.P v)) j0 (by omega)
          have hcm := cm_in k1 hlv v0 v1 i0 i1 hp
          have e1 := wt_s (D := g.D) (v := v) (l := g.P v) i0
          have e2 := lt9_s (D := g.D) (v := v) (l := g.P v) i0
          have e3 : lte g.D v (g.P v) i = if g.D 3 (gt (g.P v) i) < bg g.D v (g.P v) i then bg g.D v (g.P v) i - g.D 3 (gt (g.P v) i) else 0 := by unfold lte mx; split <;> split <;> omega
          refine r_iload 5 d_Mod_minutes_22 rfl ?_
          refine r_aload_n 0 d_Mod_minutes_24 rfl rfl ?_
          refine r_getR 184 d_Mod_minutes_25 fk_Mod_52 rfl rfl rfl (by decide) ?_
          refine r_iload_n 3 d_Mod_minutes_28 rfl rfl ?_
          refine r_iald 3 d_Mod_minutes_29 rfl rfl (by omega) (by omega) ?_
          rw [hz.1]
          refine r_icmp_ge 114 d_Mod_minutes_30 rfl (by omega) (by omega) (fun h30 => absurd h30 (by omega)) (fun h30 => ?_)
          refine r_aload_n 0 d_Mod_minutes_33 rfl rfl ?_
          refine r_getR 183 d_Mod_minutes_34 fk_Mod_49 rfl rfl rfl (by decide) ?_
          refine r_bipush d_Mod_minutes_37 (by decide) ?_
          refine r_iload_n 3 d_Mod_minutes_39 rfl rfl ?_
          refine r_imul d_Mod_minutes_40 ?_
          refine r_iload 5 d_Mod_minutes_41 rfl ?_
          refine r_iadd d_Mod_minutes_43 ?_
          refine r_iald 36 d_Mod_minutes_44 rfl rfl (by omega) (by omega) ?_
          rw [he.1]
          refine r_istore 6 d_Mod_minutes_45 (by decide) rfl ?_
          refine r_iload_n 2 d_Mod_minutes_47 rfl rfl ?_
          refine r_iload_n 1 d_Mod_minutes_48 rfl rfl ?_
          refine r_if_eq 91 d_Mod_minutes_49 rfl (by omega) (fun h49 => ?_) (fun h49 => ?_)
          · refine r_aload_n 0 d_Mod_minutes_91 rfl rfl ?_
            refine r_getR 193 d_Mod_minutes_92 fk_Mod_80 rfl rfl rfl (by decide) ?_
            refine r_iload 5 d_Mod_minutes_95 rfl ?_
            refine r_iald 12 d_Mod_minutes_97 rfl rfl (by omega) (by omega) ?_
            rw [hNi.2.1]
            refine r_aload_n 0 d_Mod_minutes_98 rfl rfl ?_
            refine r_getR 192 d_Mod_minutes_99 fk_Mod_77 rfl rfl rfl (by decide) ?_
            refine r_iload 5 d_Mod_minutes_102 rfl ?_
            refine r_iald 12 d_Mod_minutes_104 rfl rfl (by omega) (by omega) ?_
            rw [hNi.1]
            refine r_isub d_Mod_minutes_105 ?_
            refine r_iadd d_Mod_minutes_106 ?_
            refine r_istore_n 2 d_Mod_minutes_107 rfl (by decide) rfl ?_
            refine r_iinc 5 d_Mod_minutes_108 rfl (by decide) rfl ?_
            refine r_goto 22 d_Mod_minutes_111 rfl ?_
            refine r_drop 6 (ihi _ ?_)
            first
              | (rw [if_pos h49] at hy ⊢; omega)
              | (rw [if_neg h49] at hy ⊢; rw [if_pos (by omega)] at e3; omega)
              | (rw [if_neg h49] at hy ⊢; rw [if_neg (by omega)] at e3; omega)
          · refine r_aload_n 0 d_Mod_minutes_52 rfl rfl ?_
            refine r_getR 193 d_Mod_minutes_53 fk_Mod_80 rfl rfl rfl (by decide) ?_
            refine r_iload 5 d_Mod_minutes_56 rfl ?_
            refine r_iald 12 d_Mod_minutes_58 rfl rfl (by omega) (by omega) ?_
            rw [hNi.2.1]
            refine r_aload_n 0 d_Mod_minutes_59 rfl rfl ?_
            refine r_getR 174 d_Mod_minutes_60 fk_Mod_22 rfl rfl rfl (by decide) ?_
            refine r_iload 6 d_Mod_minutes_63 rfl ?_
            refine r_iald 12 d_Mod_minutes_65 rfl rfl (by omega) (by omega) ?_
            rw [hat.2.2.2.1]
            refine r_icmp_le 87 d_Mod_minutes_66 rfl (by omega) (by omega) (fun h66 => ?_) (fun h66 => ?_)
            · refine r_iconst d_Mod_minutes_87 ?_
              refine r_goto 106 d_Mod_minutes_88 rfl ?_
              refine r_iadd d_Mod_minutes_106 ?_
              refine r_istore_n 2 d_Mod_minutes_107 rfl (by decide) rfl ?_
              refine r_iinc 5 d_Mod_minutes_108 rfl (by decide) rfl ?_
              refine r_goto 22 d_Mod_minutes_111 rfl ?_
              refine r_drop 6 (ihi _ ?_)
              first
                | (rw [if_pos h49] at hy ⊢; omega)
                | (rw [if_neg h49] at hy ⊢; rw [if_pos (by omega)] at e3; omega)
                | (rw [if_neg h49] at hy ⊢; rw [if_neg (by omega)] at e3; omega)
            · refine r_aload_n 0 d_Mod_minutes_69 rfl rfl ?_
              refine r_getR 193 d_Mod_minutes_70 fk_Mod_80 rfl rfl rfl (by decide) ?_
              refine r_iload 5 d_Mod_minutes_73 rfl ?_
              refine r_iald 12 d_Mod_minutes_75 rfl rfl (by omega) (by omega) ?_
              rw [hNi.2.1]
              refine r_aload_n 0 d_Mod_minutes_76 rfl rfl ?_
              refine r_getR 174 d_Mod_minutes_77 fk_Mod_22 rfl rfl rfl (by decide) ?_
              refine r_iload 6 d_Mod_minutes_80 rfl ?_
              refine r_iald 12 d_Mod_minutes_82 rfl rfl (by omega) (by omega) ?_
              rw [hat.2.2.2.1]
              refine r_isub d_Mod_minutes_83 ?_
              refine r_goto 106 d_Mod_minutes_84 rfl ?_
              refine r_iadd d_Mod_minutes_106 ?_
              refine r_istore_n 2 d_Mod_minutes_107 rfl (by decide) rfl ?_
              refine r_iinc 5 d_Mod_minutes_108 rfl (by decide) rfl ?_
              refine r_goto 22 d_Mod_minutes_111 rfl ?_
              refine r_drop 6 (ihi _ ?_)
              first
                | (rw [if_pos h49] at hy ⊢; omega)
                | (rw [if_neg h49] at hy ⊢; rw [if_pos (by omega)] at e3; omega)
                | (rw [if_neg h49] at hy ⊢; rw [if_neg (by omega)] at e3; omega)
      exact LI 0 (by omega) (by omega) x (by by_cases q : b = 0; (rw [if_pos q]; show x = x + 0; omega); (rw [if_neg q]; show x = x + 0; omega))
  refine ci_of [vR 169, vI b, vU, vU, vU, vU, vU] fy_Mod_minutes.1 rfl (Nat.le_of_ble_eq_true rfl) ?_
  refine r_iconst d_Mod_minutes_0 ?_
  refine r_istore_n 2 d_Mod_minutes_1 rfl (by decide) rfl ?_
  refine r_iconst d_Mod_minutes_2 ?_
  refine r_istore_n 3 d_Mod_minutes_3 rfl (by decide) rfl ?_
  exact key 0 (by omega) (by omega) σ 0 RF.rf (by by_cases q : b = 0; (rw [if_pos q]; rfl); (rw [if_neg q]; rfl))
theorem cr_count {σ : sto} {g : G} {what : Int} (hI : RI σ g) (hk : g.ok) (h_what : inR what) : CI M_Mod_count 14 [vR 169, vI what] σ (QM (sp_count g what) σ) := by
  obtain ⟨hQ, hE⟩ := id hI
  obtain ⟨hC, hU, h45, hrow, h33, hrf⟩ := id hE
  obtain ⟨k1, k2, k3, k4, k5, k6⟩ := id hk
  have hn := k1.1
  have hRV := k2.rv hn.1 hn.2.1
  refine ci_of [vR 169, vI what, vU, vU] fy_Mod_count.1 rfl (Nat.le_of_ble_eq_true rfl) ?_
  refine r_iconst d_Mod_count_0 ?_
  refine r_istore_n 2 d_Mod_count_1 rfl (by decide) rfl ?_
  refine r_iload_n 1 d_Mod_count_2 rfl rfl ?_
  rcases (show what = 0 ∨ what = 1 ∨ what = 2 ∨ what = 3 ∨ what = 4 ∨ what = 5 ∨ what = 6 ∨ (what < 0 ∨ 6 < what) by omega) with t0 | t1 | t2 | t3 | t4 | t5 | t6 | tx
  · refine r_tableIn (off := 41) 44 d_Mod_count_3 (by omega) (by omega) (by omega) (by rw [t0]; rfl) rfl ?_
    refine r_aload_n 0 d_Mod_count_44 rfl rfl ?_
    refine r_getI 13 d_Mod_count_45 fk_Mod_102 rfl rfl rfl ?_
    rw [hC.1]
    refine q_iret d_Mod_count_48 rfl ?_
    exact qn_ok hI MF.rf (by unfold sp_count; (repeat (first | rw [if_pos (by omega)] | rw [if_neg (by omega)])); (try rfl))
  · refine r_tableIn (off := 46) 49 d_Mod_count_3 (by omega) (by omega) (by omega) (by rw [t1]; rfl) rfl ?_
    refine r_aload_n 0 d_Mod_count_49 rfl rfl ?_
    refine r_getI 14 d_Mod_count_50 fk_Mod_105 rfl rfl rfl ?_
    rw [hC.2.1]
    refine q_iret d_Mod_count_53 rfl ?_
    exact qn_ok hI MF.rf (by unfold sp_count; (repeat (first | rw [if_pos (by omega)] | rw [if_neg (by omega)])); (try rfl))
  · refine r_tableIn (off := 51) 54 d_Mod_count_3 (by omega) (by omega) (by omega) (by rw [t2]; rfl) rfl ?_
    refine r_aload_n 0 d_Mod_count_54 rfl rfl ?_
    refine r_getI 13 d_Mod_count_55 fk_Mod_102 rfl rfl rfl ?_
    rw [hC.1]
    refine r_aload_n 0 d_Mod_count_58 rfl rfl ?_
    refine r_cVP 8 d_Mod_count_59 lk_Mod_289 vc_Mod_inRounds (mt_inRounds hQ) rfl rfl rfl rfl ⟨Nat.le_of_ble_eq_true rfl, Nat.le_of_ble_eq_true rfl⟩ ⟨Nat.zero_le _, Nat.zero_le _⟩ (Nat.le_of_ble_eq_true rfl) ?_
    refine r_isub d_Mod_count_62 ?_
    refine q_iret d_Mod_count_63 rfl ?_
    exact qn_ok hI MF.rf (by unfold sp_count; (repeat (first | rw [if_pos (by omega)] | rw [if_neg (by omega)])); (try rfl))
  · refine r_tableIn (off := 61) 64 d_Mod_count_3 (by omega) (by omega) (by omega) (by rw [t3]; rfl) rfl ?_
    refine r_iconst d_Mod_count_64 ?_
    refine r_istore_n 3 d_Mod_count_65 rfl (by decide) rfl ?_
    have key : ∀ s, 0 ≤ s → s ≤ g.ns → ∀ x, x = mstN g.D s.toNat - inN (isM g.D) (al3 g.P) s.toNat → Run M_Mod_count (rxI 14 (QM (sp_count g what) σ)) (0, 0) 66 [vR 169, vI what, vI x, vI s] [] (sg σ) := by
      refine up_ind (b := g.ns) ?_ ?_
      · intro x hx
        refine r_iload_n 3 d_Mod_count_66 rfl rfl ?_
        refine r_aload_n 0 d_Mod_count_67 rfl rfl ?_
        refine r_getI 13 d_Mod_count_68 fk_Mod_102 rfl rfl rfl ?_
        rw [hC.1]
        refine r_icmp_ge 106 d_Mod_count_71 rfl (by omega) (by omega) (fun h71 => ?_) (fun h71 => absurd h71 (by omega))
        refine r_iload_n 2 d_Mod_count_106 rfl rfl ?_
        refine q_iret d_Mod_count_107 rfl ?_
        exact qn_ok hI MF.rf (by rw [hx, (k2.inN hn.1 ⟨hn.2.2.1, hn.2.2.2⟩).1]; unfold sp_count; (repeat (first | rw [if_pos (by omega)] | rw [if_neg (by omega)])); (try rfl))
      · intro s s0 s1 ih x hx
        have hat := hC.at (s := s) s0 (by omega)
        have hds := k1.2.1 s s0 s1
        have e1 := mst_s (D := g.D) s0
        have e2 := inN_s (p := isM g.D) (l := al3 g.P) s0
        refine r_iload_n 3 d_Mod_count_66 rfl rfl ?_
        refine r_aload_n 0 d_Mod_count_67 rfl rfl ?_
        refine r_getI 13 d_Mod_count_68 fk_Mod_102 rfl rfl rfl ?_
        rw [hC.1]
        refine r_icmp_ge 106 d_Mod_count_71 rfl (by omega) (by omega) (fun h71 => absurd h71 (by omega)) (fun h71 => ?_)
        refine r_iload_n 2 d_Mod_count_74 rfl rfl ?_
        refine r_aload_n 0 d_Mod_count_75 rfl rfl ?_
        refine r_getR 171 d_Mod_count_76 fk_Mod_13 rfl rfl rfl (by decide) ?_
        refine r_iload_n 3 d_Mod_count_79 rfl rfl ?_
        refine r_iald 12 d_Mod_count_80 rfl rfl (by omega) (by omega) ?_
        rw [hat.1]
        refine r_iconst d_Mod_count_81 ?_
        refine r_icmp_ne 97 d_Mod_count_82 rfl (by omega) (by omega) (fun h82 => ?_) (fun h82 => ?_)
        · refine r_iconst d_Mod_count_97 ?_
          refine r_iadd d_Mod_count_98 ?_
          refine r_istore_n 2 d_Mod_count_99 rfl (by decide) rfl ?_
          refine r_iinc 3 d_Mod_count_100 rfl (by decide) rfl ?_
          refine r_goto 66 d_Mod_count_103 rfl ?_
          refine ih _ ?_
          first
            | (rw [if_neg h82] at e1; rw [if_neg (fun q => h82 (of_decide_eq_true q.1))] at e2; omega)
            | (have hin := van_in h90; rw [if_pos h82] at e1; rw [if_pos ⟨decide_eq_true h82, hin⟩] at e2; omega)
            | (have hno : s ∉ al3 g.P := vanOf_no.mp (by have := vanOf_in g.P s; omega)
               rw [if_pos h82] at e1; rw [if_neg (fun q => hno q.2)] at e2; omega)
        · refine r_aload_n 0 d_Mod_count_85 rfl rfl ?_
          refine r_iload_n 3 d_Mod_count_86 rfl rfl ?_
          refine r_cVP 8 d_Mod_count_87 lk_Mod_156 vc_Mod_vanOf (mt_vanOf hC ⟨hn.2.2.1, hn.2.2.2⟩ hQ k2 (by omega)) rfl rfl rfl rfl ⟨Nat.le_of_ble_eq_true rfl, Nat.le_of_ble_eq_true rfl⟩ ⟨Nat.zero_le _, Nat.zero_le _⟩ (Nat.le_of_ble_eq_true rfl) ?_
          refine r_if_ge 97 d_Mod_count_90 rfl (by have := vanOf_in g.P s; omega) (fun h90 => ?_) (fun h90 => ?_)
          · refine r_iconst d_Mod_count_97 ?_
            refine r_iadd d_Mod_count_98 ?_
            refine r_istore_n 2 d_Mod_count_99 rfl (by decide) rfl ?_
            refine r_iinc 3 d_Mod_count_100 rfl (by decide) rfl ?_
            refine r_goto 66 d_Mod_count_103 rfl ?_
            refine ih _ ?_
            first
              | (rw [if_neg h82] at e1; rw [if_neg (fun q => h82 (of_decide_eq_true q.1))] at e2; omega)
              | (have hin := van_in h90; rw [if_pos h82] at e1; rw [if_pos ⟨decide_eq_true h82, hin⟩] at e2; omega)
              | (have hno : s ∉ al3 g.P := vanOf_no.mp (by have := vanOf_in g.P s; omega)
                 rw [if_pos h82] at e1; rw [if_neg (fun q => hno q.2)] at e2; omega)
          · refine r_iconst d_Mod_count_93 ?_
            refine r_goto 98 d_Mod_count_94 rfl ?_
            refine r_iadd d_Mod_count_98 ?_
            refine r_istore_n 2 d_Mod_count_99 rfl (by decide) rfl ?_
            refine r_iinc 3 d_Mod_count_100 rfl (by decide) rfl ?_
            refine r_goto 66 d_Mod_count_103 rfl ?_
            refine ih _ ?_
            first
              | (rw [if_neg h82] at e1; rw [if_neg (fun q => h82 (of_decide_eq_true q.1))] at e2; omega)
              | (have hin := van_in h90; rw [if_pos h82] at e1; rw [if_pos ⟨decide_eq_true h82, hin⟩] at e2; omega)
              | (have hno : s ∉ al3 g.P := vanOf_no.mp (by have := vanOf_in g.P s; omega)
                 rw [if_pos h82] at e1; rw [if_neg (fun q => hno q.2)] at e2; omega)
    exact key 0 (by omega) (by omega) 0 rfl
  · refine r_tableIn (off := 105) 108 d_Mod_count_3 (by omega) (by omega) (by omega) (by rw [t4]; rfl) rfl ?_
    refine r_aload_n 0 d_Mod_count_108 rfl rfl ?_
    refine r_getI 20 d_Mod_count_109 fk_Mod_137 rfl rfl rfl ?_
    rw [hU.1]
    refine q_iret d_Mod_count_112 rfl ?_
    exact qn_ok hI MF.rf (by unfold sp_count; (repeat (first | rw [if_pos (by omega)] | rw [if_neg (by omega)])); (try rfl))
  · refine r_tableIn (off := 110) 113 d_Mod_count_3 (by omega) (by omega) (by omega) (by rw [t5]; rfl) rfl ?_
    refine r_aload_n 0 d_Mod_count_113 rfl rfl ?_
    refine r_iload_n 1 d_Mod_count_114 rfl rfl ?_
    refine r_bipush d_Mod_count_115 (by decide) ?_
    refine r_icmp_ne 124 d_Mod_count_117 rfl (by omega) (by omega) (fun h117 => ?_) (fun h117 => ?_)
    · refine r_iconst d_Mod_count_124 ?_
      refine r_cVI 8 d_Mod_count_125 lk_Mod_292 vc_Mod_minutes (mt_minutes hI hk (by omega)) rfl rfl rfl rfl ⟨Nat.le_of_ble_eq_true rfl, Nat.le_of_ble_eq_true rfl⟩ ⟨Nat.zero_le _, Nat.zero_le _⟩ (Nat.le_of_ble_eq_true rfl) (fun r125 s125 q125 => ?_)
      obtain ⟨e, qR⟩ := q125
      refine q_iret d_Mod_count_128 rfl ?_
      first
        | (exfalso; omega)
        | exact qn_ok (qR.ri hI) qR.mf (by rw [e]; unfold sp_count; (repeat (first | rw [if_pos (by omega)] | rw [if_neg (by omega)])); (try rfl))
    · refine r_iconst d_Mod_count_120 ?_
      refine r_goto 125 d_Mod_count_121 rfl ?_
      refine r_cVI 8 d_Mod_count_125 lk_Mod_292 vc_Mod_minutes (mt_minutes hI hk (by omega)) rfl rfl rfl rfl ⟨Nat.le_of_ble_eq_true rfl, Nat.le_of_ble_eq_true rfl⟩ ⟨Nat.zero_le _, Nat.zero_le _⟩ (Nat.le_of_ble_eq_true rfl) (fun r125 s125 q125 => ?_)
      obtain ⟨e, qR⟩ := q125
      refine q_iret d_Mod_count_128 rfl ?_
      first
        | (exfalso; omega)
        | exact qn_ok (qR.ri hI) qR.mf (by rw [e]; unfold sp_count; (repeat (first | rw [if_pos (by omega)] | rw [if_neg (by omega)])); (try rfl))
  · refine r_tableIn (off := 110) 113 d_Mod_count_3 (by omega) (by omega) (by omega) (by rw [t6]; rfl) rfl ?_
    refine r_aload_n 0 d_Mod_count_113 rfl rfl ?_
    refine r_iload_n 1 d_Mod_count_114 rfl rfl ?_
    refine r_bipush d_Mod_count_115 (by decide) ?_
    refine r_icmp_ne 124 d_Mod_count_117 rfl (by omega) (by omega) (fun h117 => ?_) (fun h117 => ?_)
    · refine r_iconst d_Mod_count_124 ?_
      refine r_cVI 8 d_Mod_count_125 lk_Mod_292 vc_Mod_minutes (mt_minutes hI hk (by omega)) rfl rfl rfl rfl ⟨Nat.le_of_ble_eq_true rfl, Nat.le_of_ble_eq_true rfl⟩ ⟨Nat.zero_le _, Nat.zero_le _⟩ (Nat.le_of_ble_eq_true rfl) (fun r125 s125 q125 => ?_)
      obtain ⟨e, qR⟩ := q125
      refine q_iret d_Mod_count_128 rfl ?_
      first
        | (exfalso; omega)
        | exact qn_ok (qR.ri hI) qR.mf (by rw [e]; unfold sp_count; (repeat (first | rw [if_pos (by omega)] | rw [if_neg (by omega)])); (try rfl))
    · refine r_iconst d_Mod_count_120 ?_
      refine r_goto 125 d_Mod_count_121 rfl ?_
      refine r_cVI 8 d_Mod_count_125 lk_Mod_292 vc_Mod_minutes (mt_minutes hI hk (by omega)) rfl rfl rfl rfl ⟨Nat.le_of_ble_eq_true rfl, Nat.le_of_ble_eq_true rfl⟩ ⟨Nat.zero_le _, Nat.zero_le _⟩ (Nat.le_of_ble_eq_true rfl) (fun r125 s125 q125 => ?_)
      obtain ⟨e, qR⟩ := q125
      refine q_iret d_Mod_count_128 rfl ?_
      first
        | (exfalso; omega)
        | exact qn_ok (qR.ri hI) qR.mf (by rw [e]; unfold sp_count; (repeat (first | rw [if_pos (by omega)] | rw [if_neg (by omega)])); (try rfl))
  · refine r_tableOut 129 d_Mod_count_3 (by omega) (by omega) rfl ?_
    refine r_aload_n 0 d_Mod_count_129 rfl rfl ?_
    refine r_bipush d_Mod_count_130 (by decide) ?_
    refine r_cVI 8 d_Mod_count_132 lk_Mod_126 vc_Mod_no (mt_no (by omega)) rfl rfl rfl rfl ⟨Nat.le_of_ble_eq_true rfl, Nat.le_of_ble_eq_true rfl⟩ ⟨Nat.zero_le _, Nat.zero_le _⟩ (Nat.le_of_ble_eq_true rfl) (fun r132 s132 q132 => ?_)
    have q := q132
    refine q_iret d_Mod_count_135 rfl ?_
    exact qn_no hI MF.rf q (by unfold sp_count; (repeat (first | rw [if_pos (by omega)] | rw [if_neg (by omega)])); (try rfl))
theorem cr_lay {σ : sto} {g : G} {v : Int} (hI : RI σ g) (hk : g.ok) (h_v : inR v) : CI M_Mod_lay 14 [vR 169, vI v] σ (QM (sp_lay g v) σ) := by
  obtain ⟨hQ, hE⟩ := id hI
  obtain ⟨hC, hU, h45, hrow, h33, hrf⟩ := id hE
  obtain ⟨k1, k2, k3, k4, k5, k6⟩ := id hk
  have hn := k1.1
  have hRV := k2.rv hn.1 hn.2.1
  refine ci_of [vR 169, vI v, vU, vU] fy_Mod_lay.1 rfl (Nat.le_of_ble_eq_true rfl) ?_
  refine r_aload_n 0 d_Mod_lay_0 rfl rfl ?_
  refine r_iload_n 1 d_Mod_lay_1 rfl rfl ?_
  refine r_cVI 8 d_Mod_lay_2 lk_Mod_165 vc_Mod_isVan (mt_isVan hC.2.1 (by omega) (by omega)) rfl rfl rfl rfl ⟨Nat.le_of_ble_eq_true rfl, Nat.le_of_ble_eq_true rfl⟩ ⟨Nat.zero_le _, Nat.zero_le _⟩ (Nat.le_of_ble_eq_true rfl) (fun r2 s2 q2 => ?_)
  obtain ⟨q2, hs2⟩ := q2
  have hs2 := hs2.symm
  subst hs2
  refine r_if_ne 15 d_Mod_lay_5 rfl (by omega) (fun h5 => ?_) (fun h5 => ?_)
  · refine r_aload_n 0 d_Mod_lay_15 rfl rfl ?_
    refine r_iload_n 1 d_Mod_lay_16 rfl rfl ?_
    refine r_cVI 8 d_Mod_lay_17 lk_Mod_201 vc_Mod_fits (mt_fits hC k1 hQ (by omega) (by omega) (hRV v (by omega) (by omega))) rfl rfl rfl rfl ⟨Nat.le_of_ble_eq_true rfl, Nat.le_of_ble_eq_true rfl⟩ ⟨Nat.zero_le _, Nat.zero_le _⟩ (Nat.le_of_ble_eq_true rfl) (fun r17 s17 q17 => ?_)
    obtain ⟨qa, -, -, qR⟩ := q17
    have hN := (qa.resolve_right (fun q => q.2 (k3 v (by omega) (by omega)))).2.2
    have hI2 := qR.ri hI
    have hz := hI2.1.len (v := v) (by omega) (by omega)
    refine r_istore_n 2 d_Mod_lay_20 rfl (by decide) rfl ?_
    refine r_aload_n 0 d_Mod_lay_21 rfl rfl ?_
    refine r_aload_n 0 d_Mod_lay_22 rfl rfl ?_
    refine r_getR 184 d_Mod_lay_23 fk_Mod_52 rfl rfl rfl (by decide) ?_
    refine r_iload_n 1 d_Mod_lay_26 rfl rfl ?_
    refine r_iald 3 d_Mod_lay_27 rfl rfl (by omega) (by omega) ?_
    rw [hz.1]
    refine r_putI 45 d_Mod_lay_28 fk_Mod_99 rfl rfl rfl (Or.inl rfl) ?_
    refine r_iconst d_Mod_lay_31 ?_
    refine r_istore_n 3 d_Mod_lay_32 rfl (by decide) rfl ?_
    have key : ∀ k, 0 ≤ k → k ≤ ln (g.P v) → ∀ σ1 : sto, (∀ j, 0 ≤ j → j < k → σ1 196 j = bg g.D v (g.P v) j) → σ1 169 45 = ln (g.P v) → (∀ c i : Int, c ≠ 196 → (c ≠ 169 ∨ i ≠ 45) → σ1 c i = s17 c i) → Run M_Mod_lay (rxI 14 (QM (sp_lay g v) σ)) (0, 0) 33 [vR 169, vI v, vI r17, vI k] [] (sg σ1) := by
      refine up_ind (b := ln (g.P v)) ?_ ?_
      · intro σ1 g1 g2 g3
        refine r_iload_n 3 d_Mod_lay_33 rfl rfl ?_
        refine r_aload_n 0 d_Mod_lay_34 rfl rfl ?_
        refine r_getI 45 d_Mod_lay_35 fk_Mod_99 rfl rfl rfl ?_
        rw [g2]
        refine r_icmp_ge 59 d_Mod_lay_38 rfl (by omega) (by omega) (fun h38 => ?_) (fun h38 => absurd h38 (by omega))
        refine r_aload_n 0 d_Mod_lay_59 rfl rfl ?_
        refine r_getI 45 d_Mod_lay_60 fk_Mod_99 rfl rfl rfl ?_
        rw [g2]
        refine q_iret d_Mod_lay_63 rfl ?_
        obtain ⟨z0, z1, z2, z3, z4, z5, z6⟩ := hI2
        exact qn_ok (g' := g.row (ln (g.P v)) (bg g.D v (g.P v))) ⟨z0.keep (fun c i q => g3 c i (by omega) (by omega)), z1.keep (fun c i q => g3 c i (by omega) (by omega)), z2.keep (g3 169 20 (by omega) (by omega)) (fun i => g3 185 i (by omega) (by omega)), g2, fun i i0 i1 => g1 i i0 i1, by rw [g3 169 33 (by omega) (by omega)]; exact z5, fun k k0 k1 => by rw [g3 188 k (by omega) (by omega)]; exact z6 k k0 k1⟩ (qR.mf.tr (fun c i q => g3 c i (by omega) (by omega))) (by unfold sp_lay; (repeat (first | rw [if_pos (by omega)] | rw [if_neg (by omega)])); (try rfl))
      · intro k k0 kk ih σ1 g1 g2 g3
        have hNi := (hN.2 (by omega)).2 k k0 kk
        refine r_iload_n 3 d_Mod_lay_33 rfl rfl ?_
        refine r_aload_n 0 d_Mod_lay_34 rfl rfl ?_
        refine r_getI 45 d_Mod_lay_35 fk_Mod_99 rfl rfl rfl ?_
        rw [g2]
        refine r_icmp_ge 59 d_Mod_lay_38 rfl (by omega) (by omega) (fun h38 => absurd h38 (by omega)) (fun h38 => ?_)
        refine r_aload_n 0 d_Mod_lay_41 rfl rfl ?_
        refine r_getR 196 d_Mod_lay_42 fk_Mod_93 rfl rfl rfl (by decide) ?_
        refine r_iload_n 3 d_Mod_lay_45 rfl rfl ?_
        refine r_aload_n 0 d_Mod_lay_46 rfl rfl ?_
        refine r_getR 193 d_Mod_lay_47 fk_Mod_80 rfl rfl rfl (by decide) ?_
        refine r_iload_n 3 d_Mod_lay_50 rfl rfl ?_
        refine r_iald 12 d_Mod_lay_51 rfl rfl (by omega) (by omega) ?_
        rw [show σ1 193 k = bg g.D v (g.P v) k by rw [g3 193 k (by omega) (by omega)]; exact hNi.2.1]
        refine r_iast 12 d_Mod_lay_52 rfl rfl (by omega) (by omega) ?_
        refine r_iinc 3 d_Mod_lay_53 rfl (by decide) rfl ?_
        refine r_goto 33 d_Mod_lay_56 rfl ?_
        refine ih _ (fun j j0 j1 => ?_) (by rw [wr_ne (by omega)]; exact g2) (fun c i q1 q2 => by rw [wr_ne (by omega)]; exact g3 c i q1 q2)
        by_cases e : j = k
        · rw [e, wr_eq]
        · rw [wr_ne (by omega)]; exact g1 j j0 (by omega)
    exact key 0 (by omega) (by omega) _ (fun j j0 j1 => by omega) wr_eq (fun c i q1 q2 => wr_ne (by omega))
  · refine r_aload_n 0 d_Mod_lay_8 rfl rfl ?_
    refine r_bipush d_Mod_lay_9 (by decide) ?_
    refine r_cVI 8 d_Mod_lay_11 lk_Mod_126 vc_Mod_no (mt_no (by omega)) rfl rfl rfl rfl ⟨Nat.le_of_ble_eq_true rfl, Nat.le_of_ble_eq_true rfl⟩ ⟨Nat.zero_le _, Nat.zero_le _⟩ (Nat.le_of_ble_eq_true rfl) (fun r11 s11 q11 => ?_)
    have q := q11
    refine q_iret d_Mod_lay_14 rfl ?_
    exact qn_no hI MF.rf q (by unfold sp_lay; (repeat (first | rw [if_pos (by omega)] | rw [if_neg (by omega)])); (try rfl))
theorem cr_copy {σ : sto} {g : G} {i j n : Int} (hI : RI σ g) (hk : g.ok) (h_i : inR i) (h_j : inR j) (h_n : inR n) : CI M_Mod_copy 14 [vR 169, vI i, vI j, vI n] σ (QM (sp_copy g i j n) σ) := by
  obtain ⟨hQ, hE⟩ := id hI
  obtain ⟨hC, hU, h45, hrow, h33, hrf⟩ := id hE
  obtain ⟨k1, k2, k3, k4, k5, k6⟩ := id hk
  have hn := k1.1
  have hRV := k2.rv hn.1 hn.2.1
  refine ci_of [vR 169, vI i, vI j, vI n, vU] fy_Mod_copy.1 rfl (Nat.le_of_ble_eq_true rfl) ?_
  refine r_aload_n 0 d_Mod_copy_0 rfl rfl ?_
  refine r_getI 45 d_Mod_copy_1 fk_Mod_99 rfl rfl rfl ?_
  rw [h45]
  refine r_if_ge 14 d_Mod_copy_4 rfl (by omega) (fun h4 => ?_) (fun h4 => ?_)
  · refine r_iload_n 3 d_Mod_copy_14 rfl rfl ?_
    refine r_if_ge 25 d_Mod_copy_15 rfl (by omega) (fun h15 => ?_) (fun h15 => ?_)
    · refine r_iload_n 1 d_Mod_copy_25 rfl rfl ?_
      refine r_if_lt 61 d_Mod_copy_26 rfl (by omega) (fun h26 => ?_) (fun h26 => ?_)
      · refine r_aload_n 0 d_Mod_copy_61 rfl rfl ?_
        refine r_bipush d_Mod_copy_62 (by decide) ?_
        refine r_cVI 8 d_Mod_copy_64 lk_Mod_126 vc_Mod_no (mt_no (by omega)) rfl rfl rfl rfl ⟨Nat.le_of_ble_eq_true rfl, Nat.le_of_ble_eq_true rfl⟩ ⟨Nat.zero_le _, Nat.zero_le _⟩ (Nat.le_of_ble_eq_true rfl) (fun r64 s64 q64 => ?_)
        have q := q64
        refine q_iret d_Mod_copy_67 rfl ?_
        exact qn_no hI MF.rf q (by unfold sp_copy; (repeat (first | rw [if_pos (by omega)] | rw [if_neg (by omega)])); (try rfl))
      · refine r_iload_n 2 d_Mod_copy_29 rfl rfl ?_
        refine r_if_lt 61 d_Mod_copy_30 rfl (by omega) (fun h30 => ?_) (fun h30 => ?_)
        · refine r_aload_n 0 d_Mod_copy_61 rfl rfl ?_
          refine r_bipush d_Mod_copy_62 (by decide) ?_
          refine r_cVI 8 d_Mod_copy_64 lk_Mod_126 vc_Mod_no (mt_no (by omega)) rfl rfl rfl rfl ⟨Nat.le_of_ble_eq_true rfl, Nat.le_of_ble_eq_true rfl⟩ ⟨Nat.zero_le _, Nat.zero_le _⟩ (Nat.le_of_ble_eq_true rfl) (fun r64 s64 q64 => ?_)
          have q := q64
          refine q_iret d_Mod_copy_67 rfl ?_
          exact qn_no hI MF.rf q (by unfold sp_copy; (repeat (first | rw [if_pos (by omega)] | rw [if_neg (by omega)])); (try rfl))
        · have c1 := cmpI_c (i + n) g.rs
          have c2 := cmpI_c (j + n) g.rs
          refine r_iload_n 1 d_Mod_copy_33 rfl rfl ?_
          refine r_i2l d_Mod_copy_34 (by omega) ?_
          refine r_iload_n 3 d_Mod_copy_35 rfl rfl ?_
          refine r_i2l d_Mod_copy_36 (by omega) ?_
          refine r_ladd d_Mod_copy_37 ?_
          refine r_aload_n 0 d_Mod_copy_38 rfl rfl ?_
          refine r_getI 45 d_Mod_copy_39 fk_Mod_99 rfl rfl rfl ?_
          rw [h45]
          refine r_i2l d_Mod_copy_42 (by omega) ?_
          refine r_lcmp d_Mod_copy_43 (by omega) (by omega) ?_
          refine r_if_gt 61 d_Mod_copy_44 rfl (by omega) (fun h44 => ?_) (fun h44 => ?_)
          · refine r_aload_n 0 d_Mod_copy_61 rfl rfl ?_
            refine r_bipush d_Mod_copy_62 (by decide) ?_
            refine r_cVI 8 d_Mod_copy_64 lk_Mod_126 vc_Mod_no (mt_no (by omega)) rfl rfl rfl rfl ⟨Nat.le_of_ble_eq_true rfl, Nat.le_of_ble_eq_true rfl⟩ ⟨Nat.zero_le _, Nat.zero_le _⟩ (Nat.le_of_ble_eq_true rfl) (fun r64 s64 q64 => ?_)
            have q := q64
            refine q_iret d_Mod_copy_67 rfl ?_
            exact qn_no hI MF.rf q (by unfold sp_copy; (repeat (first | rw [if_pos (by omega)] | rw [if_neg (by omega)])); (try rfl))
          · refine r_iload_n 2 d_Mod_copy_47 rfl rfl ?_
            refine r_i2l d_Mod_copy_48 (by omega) ?_
            refine r_iload_n 3 d_Mod_copy_49 rfl rfl ?_
            refine r_i2l d_Mod_copy_50 (by omega) ?_
            refine r_ladd d_Mod_copy_51 ?_
            refine r_aload_n 0 d_Mod_copy_52 rfl rfl ?_
            refine r_getI 45 d_Mod_copy_53 fk_Mod_99 rfl rfl rfl ?_
            rw [h45]
            refine r_i2l d_Mod_copy_56 (by omega) ?_
            refine r_lcmp d_Mod_copy_57 (by omega) (by omega) ?_
            refine r_if_le 68 d_Mod_copy_58 rfl (by omega) (fun h58 => ?_) (fun h58 => ?_)
            · refine r_iconst d_Mod_copy_68 ?_
              refine r_istore 4 d_Mod_copy_69 (by decide) rfl ?_
              have L2 : ∀ k, 0 ≤ k → k ≤ n → ∀ σ1 : sto, (∀ t, 0 ≤ t → t < n → σ1 197 t = g.rn (i + t)) → (∀ t, 0 ≤ t → t < g.rs → σ1 196 t = if j ≤ t ∧ t < j + k then g.rn (t - j + i) else g.rn t) → (∀ c x : Int, c ≠ 196 → c ≠ 197 → σ1 c x = σ c x) → Run M_Mod_copy (rxI 14 (QM (sp_copy g i j n) σ)) (0, 0) 102 [vR 169, vI i, vI j, vI n, vI k] [] (sg σ1) := by
                refine up_ind (b := n) ?_ ?_
                · intro σ1 g1 g2 g3
                  refine r_iload 4 d_Mod_copy_102 rfl ?_
                  refine r_iload_n 3 d_Mod_copy_104 rfl rfl ?_
                  refine r_icmp_ge 130 d_Mod_copy_105 rfl (by omega) (by omega) (fun h105 => ?_) (fun h105 => absurd h105 (by omega))
                  refine r_iload_n 3 d_Mod_copy_130 rfl rfl ?_
                  refine q_iret d_Mod_copy_131 rfl ?_
                  exact qn_ok (g' := g.row g.rs (fun k => if j ≤ k ∧ k < j + n then g.rn (k - j + i) else g.rn k)) ⟨hQ.keep (fun c i q => g3 c i (by omega) (by omega)), hC.keep (fun c i q => g3 c i (by omega) (by omega)), hU.keep (g3 169 20 (by omega) (by omega)) (fun i => g3 185 i (by omega) (by omega)), by rw [g3 169 45 (by omega) (by omega)]; exact h45, fun t t0 t1 => g2 t t0 t1, by rw [g3 169 33 (by omega) (by omega)]; exact h33, fun k k0 k1 => by rw [g3 188 k (by omega) (by omega)]; exact hrf k k0 k1⟩ (fun c x q => g3 c x (by omega) (by omega)) (by unfold sp_copy; (repeat (first | rw [if_pos (by omega)] | rw [if_neg (by omega)])); (try rfl))
                · intro k k0 kk ih σ1 g1 g2 g3
                  refine r_iload 4 d_Mod_copy_102 rfl ?_
                  refine r_iload_n 3 d_Mod_copy_104 rfl rfl ?_
                  refine r_icmp_ge 130 d_Mod_copy_105 rfl (by omega) (by omega) (fun h105 => absurd h105 (by omega)) (fun h105 => ?_)
                  refine r_aload_n 0 d_Mod_copy_108 rfl rfl ?_
                  refine r_getR 196 d_Mod_copy_109 fk_Mod_93 rfl rfl rfl (by decide) ?_
                  refine r_iload_n 2 d_Mod_copy_112 rfl rfl ?_
                  refine r_iload 4 d_Mod_copy_113 rfl ?_
                  refine r_iadd d_Mod_copy_115 ?_
                  refine r_aload_n 0 d_Mod_copy_116 rfl rfl ?_
                  refine r_getR 197 d_Mod_copy_117 fk_Mod_96 rfl rfl rfl (by decide) ?_
                  refine r_iload 4 d_Mod_copy_120 rfl ?_
                  refine r_iald 12 d_Mod_copy_122 rfl rfl (by omega) (by omega) ?_
                  rw [g1 k k0 kk]
                  refine r_iast 12 d_Mod_copy_123 rfl rfl (by omega) (by omega) ?_
                  refine r_iinc 4 d_Mod_copy_124 rfl (by decide) rfl ?_
                  refine r_goto 102 d_Mod_copy_127 rfl ?_
                  refine ih _ (fun t t0 t1 => by rw [wr_ne (by omega)]; exact g1 t t0 t1) (fun t t0 t1 => ?_) (fun c x q1 q2 => by rw [wr_ne (by omega)]; exact g3 c x q1 q2)
                  by_cases e : t = j + k
                  · rw [e, wr_eq, if_pos (by omega), show j + k - j + i = i + k by omega]
                  · rw [wr_ne (by omega), g2 t t0 t1]
                    by_cases e2 : j ≤ t ∧ t < j + k
                    · rw [if_pos e2, if_pos (by omega)]
                    · rw [if_neg e2, if_neg (by omega)]
              have L1 : ∀ k, 0 ≤ k → k ≤ n → ∀ σ1 : sto, (∀ t, 0 ≤ t → t < k → σ1 197 t = g.rn (i + t)) → (∀ c x : Int, c ≠ 197 → σ1 c x = σ c x) → Run M_Mod_copy (rxI 14 (QM (sp_copy g i j n) σ)) (0, 0) 71 [vR 169, vI i, vI j, vI n, vI k] [] (sg σ1) := by
                refine up_ind (b := n) ?_ ?_
                · intro σ1 g1 g3
                  refine r_iload 4 d_Mod_copy_71 rfl ?_
                  refine r_iload_n 3 d_Mod_copy_73 rfl rfl ?_
                  refine r_icmp_ge 99 d_Mod_copy_74 rfl (by omega) (by omega) (fun h74 => ?_) (fun h74 => absurd h74 (by omega))
                  refine r_iconst d_Mod_copy_99 ?_
                  refine r_istore 4 d_Mod_copy_100 (by decide) rfl ?_
                  exact L2 0 (by omega) (by omega) σ1 g1 (fun t t0 t1 => by rw [if_neg (by omega), g3 196 t (by omega)]; exact hrow t t0 t1) (fun c x q1 q2 => g3 c x q2)
                · intro k k0 kk ih σ1 g1 g3
                  refine r_iload 4 d_Mod_copy_71 rfl ?_
                  refine r_iload_n 3 d_Mod_copy_73 rfl rfl ?_
                  refine r_icmp_ge 99 d_Mod_copy_74 rfl (by omega) (by omega) (fun h74 => absurd h74 (by omega)) (fun h74 => ?_)
                  refine r_aload_n 0 d_Mod_copy_77 rfl rfl ?_
                  refine r_getR 197 d_Mod_copy_78 fk_Mod_96 rfl rfl rfl (by decide) ?_
                  refine r_iload 4 d_Mod_copy_81 rfl ?_
                  refine r_aload_n 0 d_Mod_copy_83 rfl rfl ?_
                  refine r_getR 196 d_Mod_copy_84 fk_Mod_93 rfl rfl rfl (by decide) ?_
                  refine r_iload_n 1 d_Mod_copy_87 rfl rfl ?_
                  refine r_iload 4 d_Mod_copy_88 rfl ?_
                  refine r_iadd d_Mod_copy_90 ?_
                  refine r_iald 12 d_Mod_copy_91 rfl rfl (by omega) (by omega) ?_
                  rw [show σ1 196 (i + k) = g.rn (i + k) by rw [g3 196 _ (by omega)]; exact hrow _ (by omega) (by omega)]
                  refine r_iast 12 d_Mod_copy_92 rfl rfl (by omega) (by omega) ?_
                  refine r_iinc 4 d_Mod_copy_93 rfl (by decide) rfl ?_
                  refine r_goto 71 d_Mod_copy_96 rfl ?_
                  refine ih _ (fun t t0 t1 => ?_) (fun c x q => by rw [wr_ne (by omega)]; exact g3 c x q)
                  by_cases e : t = k
                  · rw [e, wr_eq]
                  · rw [wr_ne (by omega)]; exact g1 t t0 (by omega)
              exact L1 0 (by omega) (by omega) σ (fun t t0 t1 => by omega) (fun _ _ _ => rfl)
            · refine r_aload_n 0 d_Mod_copy_61 rfl rfl ?_
              refine r_bipush d_Mod_copy_62 (by decide) ?_
              refine r_cVI 8 d_Mod_copy_64 lk_Mod_126 vc_Mod_no (mt_no (by omega)) rfl rfl rfl rfl ⟨Nat.le_of_ble_eq_true rfl, Nat.le_of_ble_eq_true rfl⟩ ⟨Nat.zero_le _, Nat.zero_le _⟩ (Nat.le_of_ble_eq_true rfl) (fun r64 s64 q64 => ?_)
              have q := q64
              refine q_iret d_Mod_copy_67 rfl ?_
              exact qn_no hI MF.rf q (by unfold sp_copy; (repeat (first | rw [if_pos (by omega)] | rw [if_neg (by omega)])); (try rfl))
    · refine r_aload_n 0 d_Mod_copy_18 rfl rfl ?_
      refine r_bipush d_Mod_copy_19 (by decide) ?_
      refine r_cVI 8 d_Mod_copy_21 lk_Mod_126 vc_Mod_no (mt_no (by omega)) rfl rfl rfl rfl ⟨Nat.le_of_ble_eq_true rfl, Nat.le_of_ble_eq_true rfl⟩ ⟨Nat.zero_le _, Nat.zero_le _⟩ (Nat.le_of_ble_eq_true rfl) (fun r21 s21 q21 => ?_)
      have q := q21
      refine q_iret d_Mod_copy_24 rfl ?_
      exact qn_no hI MF.rf q (by unfold sp_copy; (repeat (first | rw [if_pos (by omega)] | rw [if_neg (by omega)])); (try rfl))
  · refine r_aload_n 0 d_Mod_copy_7 rfl rfl ?_
    refine r_bipush d_Mod_copy_8 (by decide) ?_
    refine r_cVI 8 d_Mod_copy_10 lk_Mod_126 vc_Mod_no (mt_no (by omega)) rfl rfl rfl rfl ⟨Nat.le_of_ble_eq_true rfl, Nat.le_of_ble_eq_true rfl⟩ ⟨Nat.zero_le _, Nat.zero_le _⟩ (Nat.le_of_ble_eq_true rfl) (fun r10 s10 q10 => ?_)
    have q := q10
    refine q_iret d_Mod_copy_13 rfl ?_
    exact qn_no hI MF.rf q (by unfold sp_copy; (repeat (first | rw [if_pos (by omega)] | rw [if_neg (by omega)])); (try rfl))
