-- THE REFERENCE: power, lays; each row of stops is a number (walks written by wip/whole/gen_rl2.py)
/-- what is left of a number behind n digits, its digits, and the row that they are -/
def rsN (b d : Int) : Nat → Int
  | 0 => d
  | n + 1 => rsN b d n / b
def dgs (b d : Int) (k : Int) : Int := rsN b d k.toNat % b
def dl (b d n : Int) : List Int := mk n (dgs b d)
theorem rs_s {b d k : Int} (h : 0 ≤ k) : rsN b d (k + 1).toNat = rsN b d k.toNat / b := by
  rw [show (k + 1).toNat = k.toNat + 1 by omega]; rfl
theorem rs_in {b d : Int} (b0 : 0 < b) (d0 : 0 ≤ d) : ∀ n : Nat, 0 ≤ rsN b d n ∧ rsN b d n ≤ d := by
  intro n
  induction n with
  | zero => exact ⟨d0, Int.le_refl _⟩
  | succ n ih =>
    have h1 : 0 ≤ rsN b d n / b := Int.ediv_nonneg ih.1 (by omega)
    have h2 : rsN b d n / b ≤ rsN b d n := Int.ediv_le_self b ih.1
    show 0 ≤ rsN b d n / b ∧ rsN b d n / b ≤ d
    omega
theorem dgs_in {b d : Int} (b0 : 0 < b) (k : Int) : 0 ≤ dgs b d k ∧ dgs b d k < b := ⟨Int.emod_nonneg _ (by omega), Int.emod_lt_of_pos _ b0⟩
theorem rs_d {b d : Int} : ∀ n : Nat, rsN b d (n + 1) = rsN b (d / b) n := by
  intro n
  induction n with
  | zero => rfl
  | succ n ih =>
    show rsN b d (n + 1) / b = rsN b (d / b) n / b
    rw [ih]
def encB (b : Int) : List Int → Int
  | [] => 0
  | a :: l => a + b * encB b l
theorem enc_in {b : Int} : ∀ l : List Int, (∀ x ∈ l, 0 ≤ x ∧ x < b) → 0 ≤ encB b l ∧ encB b l < b ^ l.length := by
  intro l
  induction l with
  | nil => intro _; exact ⟨Int.le_refl _, by show (0 : Int) < b ^ 0; rw [Int.pow_zero]; decide⟩
  | cons a l ih =>
    intro h
    have ha := h a List.mem_cons_self
    have h1 := ih (fun x hx => h x (List.mem_cons_of_mem _ hx))
    have h2 : b * (encB b l + 1) ≤ b * b ^ l.length := Int.mul_le_mul_of_nonneg_left (by omega) (by omega)
    have h3 : 0 ≤ b * encB b l := Int.mul_nonneg (by omega) h1.1
    rw [Int.mul_add, Int.mul_one] at h2
    show 0 ≤ a + b * encB b l ∧ a + b * encB b l < b ^ (l.length + 1)
    rw [Int.pow_succ, Int.mul_comm (b ^ l.length) b]
    omega
theorem dl_enc {b : Int} : ∀ l : List Int, (∀ x ∈ l, 0 ≤ x ∧ x < b) → dl b (encB b l) (ln l) = l := by
  have key : ∀ (l : List Int), (∀ x ∈ l, 0 ≤ x ∧ x < b) → ∀ n : Nat, n < l.length → rsN b (encB b l) n % b = gt l n := by
    intro l
    induction l with
    | nil => intro _ n hn; exact absurd hn (by simp)
    | cons a l ih =>
      intro h n hn
      have ha := h a List.mem_cons_self
      have e0 : (a + b * encB b l) % b = a := by rw [Int.add_mul_emod_self_left]; exact Int.emod_eq_of_lt ha.1 ha.2
      have e1 : (a + b * encB b l) / b = encB b l := by rw [Int.add_mul_ediv_left _ _ (by omega), Int.ediv_eq_zero_of_lt ha.1 ha.2]; omega
      cases n with
      | zero => show (a + b * encB b l) % b = _; rw [e0]; rfl
      | succ n =>
        rw [rs_d]
        show rsN b ((a + b * encB b l) / b) n % b = _
        rw [e1, ih (fun x hx => h x (List.mem_cons_of_mem _ hx)) n (by simpa using hn)]
        rfl
  intro l h
  have hl := ln0 l
  refine ext_gt (ln_mk hl) (fun i i0 i1 => ?_)
  unfold dl at i1
  rw [ln_mk hl] at i1
  unfold dl
  rw [gt_mk i0 i1]
  unfold dgs
  have := key l h i.toNat (by unfold ln at i1; omega)
  rw [this, show ((i.toNat : Nat) : Int) = i by omega]
/-- the plan that lays makes -/
def plD (b d n f : Int) : pln := fun u => if u = 0 then (dl b d n).take f.toNat else if u = 1 then (dl b d n).drop f.toNat else []
theorem pow_in {b k : Int} (b0 : 0 ≤ b) (b1 : b ≤ 5) (k0 : 0 ≤ k) (k1 : k ≤ 5) : 0 ≤ b ^ k.toNat ∧ b ^ k.toNat ≤ 3125 := by
  rcases (show b = 0 ∨ b = 1 ∨ b = 2 ∨ b = 3 ∨ b = 4 ∨ b = 5 by omega) with rfl | rfl | rfl | rfl | rfl | rfl <;> rcases (show k = 0 ∨ k = 1 ∨ k = 2 ∨ k = 3 ∨ k = 4 ∨ k = 5 by omega) with rfl | rfl | rfl | rfl | rfl | rfl <;> decide
theorem mt_power {σ : sto} {b k : Int} (k0 : 0 ≤ k) (k1 : k ≤ 100) : CI M_Mod_power 0 [vI b, vI k] σ (fun r σ' => r = b ^ k.toNat ∧ σ' = σ) := by
  have key : ∀ i, 0 ≤ i → i ≤ k → Run M_Mod_power (rxI 0 (fun r σ' => r = b ^ k.toNat ∧ σ' = σ)) (0, 0) 4 [vI b, vI k, vI (b ^ i.toNat), vI i] [] (sg σ) := by
    refine up_ind (b := k) ?_ ?_
    · refine r_iload_n 3 d_Mod_power_4 rfl rfl ?_
      refine r_iload_n 1 d_Mod_power_5 rfl rfl ?_
      refine r_icmp_ge 19 d_Mod_power_6 rfl (by omega) (by omega) (fun h6 => ?_) (fun h6 => absurd h6 (by omega))
      refine r_iload_n 2 d_Mod_power_19 rfl rfl ?_
      refine q_iret d_Mod_power_20 rfl ?_
      exact ⟨rfl, rfl⟩
    · intro i i0 i1 ih
      rw [show (i + 1).toNat = i.toNat + 1 by omega, Int.pow_succ] at ih
      refine r_iload_n 3 d_Mod_power_4 rfl rfl ?_
      refine r_iload_n 1 d_Mod_power_5 rfl rfl ?_
      refine r_icmp_ge 19 d_Mod_power_6 rfl (by omega) (by omega) (fun h6 => absurd h6 (by omega)) (fun h6 => ?_)
      refine r_iload_n 2 d_Mod_power_9 rfl rfl ?_
      refine r_iload_n 0 d_Mod_power_10 rfl rfl ?_
      refine r_imul d_Mod_power_11 ?_
      refine r_istore_n 2 d_Mod_power_12 rfl (by decide) rfl ?_
      refine r_iinc 3 d_Mod_power_13 rfl (by decide) rfl ?_
      refine r_goto 4 d_Mod_power_16 rfl ?_
      exact ih
  refine ci_of [vI b, vI k, vU, vU] fy_Mod_power.1 rfl (Nat.le_of_ble_eq_true rfl) ?_
  refine r_iconst d_Mod_power_0 ?_
  refine r_istore_n 2 d_Mod_power_1 rfl (by decide) rfl ?_
  refine r_iconst d_Mod_power_2 ?_
  refine r_istore_n 3 d_Mod_power_3 rfl (by decide) rfl ?_
  have h0 := key 0 (by omega) k0
  rw [show (0 : Int).toNat = 0 from rfl, Int.pow_zero] at h0
  exact h0
theorem mt_lays {σ D : sto} {ns nv d n f : Int} (hC : DR σ D ns nv) (hn : 0 < ns ∧ ns ≤ 5 ∧ 1 ≤ nv ∧ nv ≤ 2) (d0 : 0 ≤ d) (d1 : d < 2147483648) (n0 : 1 ≤ n) (n1 : n ≤ ns) (f0 : 0 ≤ f) (f1 : f ≤ n) (hf : nv = 1 → f = n) (h2 : σ 184 2 = 0) (h1 : nv = 1 → σ 184 1 = 0) : CI M_Mod_lays 0 [vR 169, vI d, vI n, vI f] σ (fun r σ' => (r = 1 ∧ (dl ns d n).Nodup ∧ RA σ' (plD ns d n f) ∨ r = 0 ∧ ¬ (dl ns d n).Nodup) ∧ (∀ c i : Int, c ≠ 183 → (c ≠ 184 ∨ i ≠ 0 ∧ (i ≠ 1 ∨ nv = 1)) → σ' c i = σ c i)) := by
  have hlen : ln (dl ns d n) = n := ln_mk (by omega)
  have hg : ∀ k, 0 ≤ k → k < n → gt (dl ns d n) k = dgs ns d k := fun k k0 k1 => gt_mk k0 k1
  have hRV : RV ns (dl ns d n) := ⟨by omega, fun i i0 i1 => by rw [hg i i0 (by omega)]; exact dgs_in hn.1 i⟩
  have L1 : ∀ k, 0 ≤ k → k ≤ n → ∀ σ1 : sto, (∀ j, 0 ≤ j → j < k → (j < f → σ1 183 j = dgs ns d j) ∧ (f ≤ j → σ1 183 (12 + j - f) = dgs ns d j)) → (∀ i j, 0 ≤ i → i < j → j < k → dgs ns d i ≠ dgs ns d j) → (∀ c i : Int, c ≠ 183 → σ1 c i = σ c i) → Run M_Mod_lays (rxI 0 (fun r σ' => (r = 1 ∧ (dl ns d n).Nodup ∧ RA σ' (plD ns d n f) ∨ r = 0 ∧ ¬ (dl ns d n).Nodup) ∧ (∀ c i : Int, c ≠ 183 → (c ≠ 184 ∨ i ≠ 0 ∧ (i ≠ 1 ∨ nv = 1)) → σ' c i = σ c i))) (0, 0) 9 [vR 169, vI d, vI n, vI f, vI ((msk (dl ns d n) k : Nat) : Int), vI (rsN ns d k.toNat), vI k, vU] [] (sg σ1) := by
    refine up_ind (b := n) ?_ ?_
    · intro σ1 g1 g2 g3
      have hnd : (dl ns d n).Nodup := by
        refine List.nodup_iff_pairwise_ne.mpr (List.pairwise_iff_getElem.mpr (fun i j hi hj hij => ?_))
        have e1 := hg i (by omega) (by unfold ln at hlen; omega)
        have e2 := hg j (by omega) (by unfold ln at hlen; omega)
        have e3 := g2 i j (by omega) (by omega) (by unfold ln at hlen; omega)
        rw [← e1, ← e2] at e3
        unfold gt at e3
        rw [List.getD_eq_getElem?_getD, List.getD_eq_getElem?_getD, Int.toNat_natCast, Int.toNat_natCast, List.getElem?_eq_getElem hi, List.getElem?_eq_getElem hj] at e3
        exact e3
      have hRA : ∀ σ2 : sto, (∀ c i : Int, c ≠ 184 → σ2 c i = σ1 c i) → σ2 184 0 = f → (nv = 1 ∧ σ2 184 1 = 0 ∨ nv = 2 ∧ σ2 184 1 = n - f) → σ2 184 2 = 0 → RA σ2 (plD ns d n f) := by
        intro σ2 q1 q2 q3 q4 v v0 v1
        have ht : ln ((dl ns d n).take f.toNat) = f := ln_take f0 (by omega)
        have hd : ln ((dl ns d n).drop f.toNat) = n - f := by rw [ln_drop f0 (by omega), hlen]
        rcases (show v = 0 ∨ v = 1 ∨ v = 2 by omega) with rfl | rfl | rfl
        · show σ2 184 0 = ln ((dl ns d n).take f.toNat) ∧ ln ((dl ns d n).take f.toNat) ≤ 12 ∧ ∀ i, 0 ≤ i → i < ln ((dl ns d n).take f.toNat) → σ2 183 (12 * 0 + i) = gt ((dl ns d n).take f.toNat) i ∧ 0 ≤ gt ((dl ns d n).take f.toNat) i ∧ gt ((dl ns d n).take f.toNat) i < 12
          rw [ht]
          refine ⟨q2, by omega, fun i i0 i1 => ?_⟩
          have hd1 := dgs_in (d := d) hn.1 i
          rw [gt_take i0 i1, hg i i0 (by omega), q1 183 _ (by omega), show (12 : Int) * 0 + i = i by omega, (g1 i i0 (by omega)).1 i1]
          omega
        · show σ2 184 1 = ln ((dl ns d n).drop f.toNat) ∧ ln ((dl ns d n).drop f.toNat) ≤ 12 ∧ ∀ i, 0 ≤ i → i < ln ((dl ns d n).drop f.toNat) → σ2 183 (12 * 1 + i) = gt ((dl ns d n).drop f.toNat) i ∧ 0 ≤ gt ((dl ns d n).drop f.toNat) i ∧ gt ((dl ns d n).drop f.toNat) i < 12
          rw [hd]
          refine ⟨by omega, by omega, fun i i0 i1 => ?_⟩
          have hd1 := dgs_in (d := d) hn.1 (f + i)
          have hx := (g1 (f + i) (by omega) (by omega)).2 (by omega)
          rw [show (12 : Int) + (f + i) - f = 12 * 1 + i by omega] at hx
          rw [gt_drop i0 f0, hg _ (by omega) (by omega), q1 183 _ (by omega), hx]
          omega
        · exact ⟨q4, by show (0 : Int) ≤ 12; decide, fun i i0 i1 => (by have : i < 0 := i1; omega)⟩
      have h14 : σ1 169 14 = nv := by rw [g3 169 14 (by omega)]; exact hC.2.1
      refine r_iload 6 d_Mod_lays_9 rfl ?_
      refine r_iload_n 2 d_Mod_lays_11 rfl rfl ?_
      refine r_icmp_ge 86 d_Mod_lays_12 rfl (by omega) (by omega) (fun h12 => ?_) (fun h12 => absurd h12 (by omega))
      refine r_aload_n 0 d_Mod_lays_86 rfl rfl ?_
      refine r_getR 184 d_Mod_lays_87 fk_Mod_52 rfl rfl rfl (by decide) ?_
      refine r_iconst d_Mod_lays_90 ?_
      refine r_iload_n 3 d_Mod_lays_91 rfl rfl ?_
      refine r_iast 3 d_Mod_lays_92 rfl rfl (by omega) (by omega) ?_
      refine r_aload_n 0 d_Mod_lays_93 rfl rfl ?_
      refine r_getI 14 d_Mod_lays_94 fk_Mod_105 rfl rfl rfl ?_
      rw [wr_ne (by omega), h14]
      refine r_iconst d_Mod_lays_97 ?_
      refine r_icmp_le 110 d_Mod_lays_98 rfl (by omega) (by omega) (fun h98 => ?_) (fun h98 => ?_)
      · refine r_iconst d_Mod_lays_110 ?_
        refine q_zret d_Mod_lays_111 rfl (by omega) ?_
        first
          | exact ⟨Or.inl ⟨rfl, hnd, hRA _ (fun c i q => by rw [wr_ne (by omega)]) wr_eq (Or.inl ⟨by omega, by rw [wr_ne (by omega), g3 184 1 (by omega)]; exact h1 (by omega)⟩) (by rw [wr_ne (by omega), g3 184 2 (by omega)]; exact h2)⟩, fun c i q1 q2 => by rw [wr_ne (by omega)]; exact g3 c i q1⟩
          | exact ⟨Or.inl ⟨rfl, hnd, hRA _ (fun c i q => by rw [wr_ne (by omega), wr_ne (by omega)]) (by rw [wr_ne (by omega), wr_eq]) (Or.inr ⟨by omega, wr_eq⟩) (by rw [wr_ne (by omega), wr_ne (by omega), g3 184 2 (by omega)]; exact h2)⟩, fun c i q1 q2 => by rw [wr_ne (by omega), wr_ne (by omega)]; exact g3 c i q1⟩
      · refine r_aload_n 0 d_Mod_lays_101 rfl rfl ?_
        refine r_getR 184 d_Mod_lays_102 fk_Mod_52 rfl rfl rfl (by decide) ?_
        refine r_iconst d_Mod_lays_105 ?_
        refine r_iload_n 2 d_Mod_lays_106 rfl rfl ?_
        refine r_iload_n 3 d_Mod_lays_107 rfl rfl ?_
        refine r_isub d_Mod_lays_108 ?_
        refine r_iast 3 d_Mod_lays_109 rfl rfl (by omega) (by omega) ?_
        refine r_iconst d_Mod_lays_110 ?_
        refine q_zret d_Mod_lays_111 rfl (by omega) ?_
        first
          | exact ⟨Or.inl ⟨rfl, hnd, hRA _ (fun c i q => by rw [wr_ne (by omega)]) wr_eq (Or.inl ⟨by omega, by rw [wr_ne (by omega), g3 184 1 (by omega)]; exact h1 (by omega)⟩) (by rw [wr_ne (by omega), g3 184 2 (by omega)]; exact h2)⟩, fun c i q1 q2 => by rw [wr_ne (by omega)]; exact g3 c i q1⟩
          | exact ⟨Or.inl ⟨rfl, hnd, hRA _ (fun c i q => by rw [wr_ne (by omega), wr_ne (by omega)]) (by rw [wr_ne (by omega), wr_eq]) (Or.inr ⟨by omega, wr_eq⟩) (by rw [wr_ne (by omega), wr_ne (by omega), g3 184 2 (by omega)]; exact h2)⟩, fun c i q1 q2 => by rw [wr_ne (by omega), wr_ne (by omega)]; exact g3 c i q1⟩
    · intro k k0 k1 ih σ1 g1 g2 g3
      have h13 : σ1 169 13 = ns := by rw [g3 169 13 (by omega)]; exact hC.1
      have hrs := rs_in (b := ns) hn.1 d0 k.toNat
      have hdk := dgs_in (d := d) hn.1 k
      have hgk := hg k k0 k1
      have hmk := msk_lt hRV (by omega) (i := k) (by omega)
      have edk : rsN ns d k.toNat % ns = dgs ns d k := rfl
      rw [rs_s k0, msk_s k0, hgk] at ih
      have hbit := bit_mod (msk (dl ns d n) k) (dgs ns d k).toNat
      have hb2 := msk_bit (l := dl ns d n) (m := (dgs ns d k).toNat) k0
      have hdv := Nat.div_le_self (msk (dl ns d n) k) (2 ^ (dgs ns d k).toNat)
      refine r_iload 6 d_Mod_lays_9 rfl ?_
      refine r_iload_n 2 d_Mod_lays_11 rfl rfl ?_
      refine r_icmp_ge 86 d_Mod_lays_12 rfl (by omega) (by omega) (fun h12 => absurd h12 (by omega)) (fun h12 => ?_)
      refine r_iload 5 d_Mod_lays_15 rfl ?_
      refine r_aload_n 0 d_Mod_lays_17 rfl rfl ?_
      refine r_getI 13 d_Mod_lays_18 fk_Mod_102 rfl rfl rfl ?_
      rw [h13]
      refine r_irem d_Mod_lays_21 (by omega) (by omega) ?_
      rw [edk]
      refine r_istore 7 d_Mod_lays_22 (by decide) rfl ?_
      refine r_iload 5 d_Mod_lays_24 rfl ?_
      refine r_aload_n 0 d_Mod_lays_26 rfl rfl ?_
      refine r_getI 13 d_Mod_lays_27 fk_Mod_102 rfl rfl rfl ?_
      rw [h13]
      refine r_idiv d_Mod_lays_30 (by omega) (by omega) ?_
      refine r_istore 5 d_Mod_lays_31 (by decide) rfl ?_
      refine r_iload 4 d_Mod_lays_33 rfl ?_
      refine r_iload 7 d_Mod_lays_35 rfl ?_
      refine r_ishr d_Mod_lays_37 (nb_shr hmk (by omega) (by omega)) ?_
      refine r_iconst d_Mod_lays_38 ?_
      refine r_iand d_Mod_lays_39 (nb_and (by omega)) ?_
      rw [hbit]
      refine r_iconst d_Mod_lays_40 ?_
      refine r_icmp_ne 46 d_Mod_lays_41 rfl (by split <;> omega) (by omega) (fun h41 => ?_) (fun h41 => ?_)
      · have hno : ¬ (msk (dl ns d n) k).testBit (dgs ns d k).toNat = true := fun q => by rw [if_pos q] at h41; omega
        have hnew : ∀ i, 0 ≤ i → i < k → dgs ns d i ≠ dgs ns d k := fun i i0 i1 q => hno (hb2.mpr ⟨i, i0, i1, by rw [hg i i0 (by omega), q]⟩)
        refine r_iload 4 d_Mod_lays_46 rfl ?_
        refine r_iconst d_Mod_lays_48 ?_
        refine r_iload 7 d_Mod_lays_49 rfl ?_
        refine r_ishl d_Mod_lays_51 (nb_shl (by omega) (by omega)) ?_
        refine r_ior d_Mod_lays_52 (nb_or _ _) ?_
        refine r_istore 4 d_Mod_lays_53 (by decide) rfl ?_
        refine r_aload_n 0 d_Mod_lays_55 rfl rfl ?_
        refine r_getR 183 d_Mod_lays_56 fk_Mod_49 rfl rfl rfl (by decide) ?_
        refine r_iload 6 d_Mod_lays_59 rfl ?_
        refine r_iload_n 3 d_Mod_lays_61 rfl rfl ?_
        refine r_icmp_ge 70 d_Mod_lays_62 rfl (by omega) (by omega) (fun h62 => ?_) (fun h62 => ?_)
        · refine r_bipush d_Mod_lays_70 (by decide) ?_
          refine r_iload 6 d_Mod_lays_72 rfl ?_
          refine r_iadd d_Mod_lays_74 ?_
          refine r_iload_n 3 d_Mod_lays_75 rfl rfl ?_
          refine r_isub d_Mod_lays_76 ?_
          refine r_iload 7 d_Mod_lays_77 rfl ?_
          refine r_iast 36 d_Mod_lays_79 rfl rfl (by omega) (by omega) ?_
          refine r_iinc 6 d_Mod_lays_80 rfl (by decide) rfl ?_
          refine r_goto 9 d_Mod_lays_83 rfl ?_
          refine r_drop 7 (ih _ (fun j j0 j1 => ⟨fun jf => ?_, fun jf => ?_⟩) (fun i j i0 ij jk => ?_) (fun c i q => by rw [wr_ne (by omega)]; exact g3 c i q))
          · by_cases e : j = k
            · rw [e]; first | exact wr_eq | (exfalso; omega)
            · rw [wr_ne (by omega)]; exact (g1 j j0 (by omega)).1 jf
          · by_cases e : j = k
            · rw [e]; first | exact wr_eq | (exfalso; omega)
            · rw [wr_ne (by omega)]; exact (g1 j j0 (by omega)).2 jf
          · by_cases e : j = k
            · rw [e]; exact hnew i i0 (by omega)
            · exact g2 i j i0 ij (by omega)
        · refine r_iload 6 d_Mod_lays_65 rfl ?_
          refine r_goto 77 d_Mod_lays_67 rfl ?_
          refine r_iload 7 d_Mod_lays_77 rfl ?_
          refine r_iast 36 d_Mod_lays_79 rfl rfl (by omega) (by omega) ?_
          refine r_iinc 6 d_Mod_lays_80 rfl (by decide) rfl ?_
          refine r_goto 9 d_Mod_lays_83 rfl ?_
          refine r_drop 7 (ih _ (fun j j0 j1 => ⟨fun jf => ?_, fun jf => ?_⟩) (fun i j i0 ij jk => ?_) (fun c i q => by rw [wr_ne (by omega)]; exact g3 c i q))
          · by_cases e : j = k
            · rw [e]; first | exact wr_eq | (exfalso; omega)
            · rw [wr_ne (by omega)]; exact (g1 j j0 (by omega)).1 jf
          · by_cases e : j = k
            · rw [e]; first | exact wr_eq | (exfalso; omega)
            · rw [wr_ne (by omega)]; exact (g1 j j0 (by omega)).2 jf
          · by_cases e : j = k
            · rw [e]; exact hnew i i0 (by omega)
            · exact g2 i j i0 ij (by omega)
      · have hyes : (msk (dl ns d n) k).testBit (dgs ns d k).toNat = true := Classical.byContradiction (fun q => by rw [if_neg q] at h41; omega)
        obtain ⟨j, j0, j1, j2⟩ := hb2.mp hyes
        have hgj := hg j j0 (by omega)
        have hdj := dgs_in (d := d) hn.1 j
        refine r_iconst d_Mod_lays_44 ?_
        refine q_zret d_Mod_lays_45 rfl (by omega) ?_
        refine ⟨Or.inr ⟨rfl, fun q => ?_⟩, fun c i q1 q2 => g3 c i q1⟩
        have := nodup_gt q (i := j) (j := k) j0 (by omega) k0 (by omega) (by omega)
        omega
  refine ci_of [vR 169, vI d, vI n, vI f, vU, vU, vU, vU] fy_Mod_lays.1 rfl (Nat.le_of_ble_eq_true rfl) ?_
  refine r_iconst d_Mod_lays_0 ?_
  refine r_istore 4 d_Mod_lays_1 (by decide) rfl ?_
  refine r_iload_n 1 d_Mod_lays_3 rfl rfl ?_
  refine r_istore 5 d_Mod_lays_4 (by decide) rfl ?_
  refine r_iconst d_Mod_lays_6 ?_
  refine r_istore 6 d_Mod_lays_7 (by decide) rfl ?_
  exact L1 0 (by omega) (by omega) σ (fun j j0 j1 => by omega) (fun i j i0 ij jk => by omega) (fun _ _ _ => rfl)
