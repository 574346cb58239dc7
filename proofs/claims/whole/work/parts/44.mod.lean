-- THE REFERENCE: ways (walks written by wip/whole/gen_mod.py)
theorem mt_no {σ : sto} {x : Int} (hx : -8 ≤ x ∧ x ≤ -2) : CI M_Mod_no 0 [vR 169, vI x] σ (fun r σ' => r = x ∧ σ' = wr σ 188 (-x) (σ 188 (-x) + 1)) := by
  refine ci_of [vR 169, vI x] fy_Mod_no.1 rfl (Nat.le_of_ble_eq_true rfl) ?_
  refine r_aload_n 0 d_Mod_no_0 rfl rfl ?_
  refine r_getR 188 d_Mod_no_1 fk_Mod_64 rfl rfl rfl (by decide) ?_
  refine r_iload_n 1 d_Mod_no_4 rfl rfl ?_
  refine r_ineg d_Mod_no_5 ?_
  refine r_dup2 d_Mod_no_6 rfl rfl ?_
  refine r_iald 9 d_Mod_no_7 rfl rfl (by omega) (by omega) ?_
  refine r_iconst d_Mod_no_8 ?_
  refine r_iadd d_Mod_no_9 ?_
  refine r_iast 9 d_Mod_no_10 rfl rfl (by omega) (by omega) ?_
  refine r_iload_n 1 d_Mod_no_11 rfl rfl ?_
  refine q_iret d_Mod_no_12 rfl ?_
  exact ⟨rfl, rfl⟩
theorem mt_isIn {σ : sto} {x a b : Int} (hx : inL x) (ha : inL a) (hb : inL b) : CI M_Mod_isIn 0 [vL x, vL a, vL b] σ (fun r σ' => (r = 1 ∧ a ≤ x ∧ x ≤ b ∨ r = 0 ∧ ¬ (a ≤ x ∧ x ≤ b)) ∧ σ' = σ) := by
  have c1 := cmpI_c x a
  have c2 := cmpI_c x b
  refine ci_of [vL x, vU, vL a, vU, vL b, vU] fy_Mod_isIn.1 rfl (Nat.le_of_ble_eq_true rfl) ?_
  refine r_lload_n 0 d_Mod_isIn_0 rfl rfl ?_
  refine r_lload_n 2 d_Mod_isIn_1 rfl rfl ?_
  refine r_lcmp d_Mod_isIn_2 (by omega) (by omega) ?_
  refine r_if_lt 17 d_Mod_isIn_3 rfl (by omega) (fun h3 => ?_) (fun h3 => ?_)
  · refine r_iconst d_Mod_isIn_17 ?_
    refine q_zret d_Mod_isIn_18 rfl (by omega) ?_
    exact ⟨by omega, rfl⟩
  · refine r_lload_n 0 d_Mod_isIn_6 rfl rfl ?_
    refine r_lload 4 d_Mod_isIn_7 rfl ?_
    refine r_lcmp d_Mod_isIn_9 (by omega) (by omega) ?_
    refine r_if_gt 17 d_Mod_isIn_10 rfl (by omega) (fun h10 => ?_) (fun h10 => ?_)
    · refine r_iconst d_Mod_isIn_17 ?_
      refine q_zret d_Mod_isIn_18 rfl (by omega) ?_
      exact ⟨by omega, rfl⟩
    · refine r_iconst d_Mod_isIn_13 ?_
      refine r_goto 18 d_Mod_isIn_14 rfl ?_
      refine q_zret d_Mod_isIn_18 rfl (by omega) ?_
      exact ⟨by omega, rfl⟩
theorem mt_isPlace {σ : sto} {p : Int} (hs : inR p) : CI M_Mod_isPlace 0 [vI p] σ (fun r σ' => (r = 1 ∧ 0 ≤ p ∧ p < 8 ∨ r = 0 ∧ ¬ (0 ≤ p ∧ p < 8)) ∧ σ' = σ) := by
  refine ci_of [vI p] fy_Mod_isPlace.1 rfl (Nat.le_of_ble_eq_true rfl) ?_
  refine r_iload_n 0 d_Mod_isPlace_0 rfl rfl ?_
  refine r_if_lt 14 d_Mod_isPlace_1 rfl (by omega) (fun h1 => ?_) (fun h1 => ?_)
  · refine r_iconst d_Mod_isPlace_14 ?_
    refine q_zret d_Mod_isPlace_15 rfl (by omega) ?_
    exact ⟨by omega, rfl⟩
  · refine r_iload_n 0 d_Mod_isPlace_4 rfl rfl ?_
    refine r_bipush d_Mod_isPlace_5 (by decide) ?_
    refine r_icmp_ge 14 d_Mod_isPlace_7 rfl (by omega) (by omega) (fun h7 => ?_) (fun h7 => ?_)
    · refine r_iconst d_Mod_isPlace_14 ?_
      refine q_zret d_Mod_isPlace_15 rfl (by omega) ?_
      exact ⟨by omega, rfl⟩
    · refine r_iconst d_Mod_isPlace_10 ?_
      refine r_goto 15 d_Mod_isPlace_11 rfl ?_
      refine q_zret d_Mod_isPlace_15 rfl (by omega) ?_
      exact ⟨by omega, rfl⟩
theorem mt_isStop {σ : sto} {s n : Int} (h : σ 169 13 = n) (hn : 0 ≤ n ∧ n ≤ 12) (hs : inR s) : CI M_Mod_isStop 0 [vR 169, vI s] σ (fun r σ' => (r = 1 ∧ 0 ≤ s ∧ s < n ∨ r = 0 ∧ ¬ (0 ≤ s ∧ s < n)) ∧ σ' = σ) := by
  refine ci_of [vR 169, vI s] fy_Mod_isStop.1 rfl (Nat.le_of_ble_eq_true rfl) ?_
  refine r_iload_n 1 d_Mod_isStop_0 rfl rfl ?_
  refine r_if_lt 16 d_Mod_isStop_1 rfl (by omega) (fun h1 => ?_) (fun h1 => ?_)
  · refine r_iconst d_Mod_isStop_16 ?_
    refine q_zret d_Mod_isStop_17 rfl (by omega) ?_
    exact ⟨by omega, rfl⟩
  · refine r_iload_n 1 d_Mod_isStop_4 rfl rfl ?_
    refine r_aload_n 0 d_Mod_isStop_5 rfl rfl ?_
    refine r_getI 13 d_Mod_isStop_6 fk_Mod_102 rfl rfl rfl ?_
    rw [h]
    refine r_icmp_ge 16 d_Mod_isStop_9 rfl (by omega) (by omega) (fun h9 => ?_) (fun h9 => ?_)
    · refine r_iconst d_Mod_isStop_16 ?_
      refine q_zret d_Mod_isStop_17 rfl (by omega) ?_
      exact ⟨by omega, rfl⟩
    · refine r_iconst d_Mod_isStop_12 ?_
      refine r_goto 17 d_Mod_isStop_13 rfl ?_
      refine q_zret d_Mod_isStop_17 rfl (by omega) ?_
      exact ⟨by omega, rfl⟩
theorem mt_isVan {σ : sto} {s n : Int} (h : σ 169 14 = n) (hn : 0 ≤ n ∧ n ≤ 12) (hs : inR s) : CI M_Mod_isVan 0 [vR 169, vI s] σ (fun r σ' => (r = 1 ∧ 0 ≤ s ∧ s < n ∨ r = 0 ∧ ¬ (0 ≤ s ∧ s < n)) ∧ σ' = σ) := by
  refine ci_of [vR 169, vI s] fy_Mod_isVan.1 rfl (Nat.le_of_ble_eq_true rfl) ?_
  refine r_iload_n 1 d_Mod_isVan_0 rfl rfl ?_
  refine r_if_lt 16 d_Mod_isVan_1 rfl (by omega) (fun h1 => ?_) (fun h1 => ?_)
  · refine r_iconst d_Mod_isVan_16 ?_
    refine q_zret d_Mod_isVan_17 rfl (by omega) ?_
    exact ⟨by omega, rfl⟩
  · refine r_iload_n 1 d_Mod_isVan_4 rfl rfl ?_
    refine r_aload_n 0 d_Mod_isVan_5 rfl rfl ?_
    refine r_getI 14 d_Mod_isVan_6 fk_Mod_105 rfl rfl rfl ?_
    rw [h]
    refine r_icmp_ge 16 d_Mod_isVan_9 rfl (by omega) (by omega) (fun h9 => ?_) (fun h9 => ?_)
    · refine r_iconst d_Mod_isVan_16 ?_
      refine q_zret d_Mod_isVan_17 rfl (by omega) ?_
      exact ⟨by omega, rfl⟩
    · refine r_iconst d_Mod_isVan_12 ?_
      refine r_goto 17 d_Mod_isVan_13 rfl ?_
      refine q_zret d_Mod_isVan_17 rfl (by omega) ?_
      exact ⟨by omega, rfl⟩
theorem mt_at {σ : sto} {a b h : Int} : CI M_Mod_at 0 [vI a, vI b, vI h] σ (fun r σ' => r = 64 * h + 8 * a + b ∧ σ' = σ) := by
  refine ci_of [vI a, vI b, vI h] fy_Mod_at.1 rfl (Nat.le_of_ble_eq_true rfl) ?_
  refine r_bipush d_Mod_at_0 (by decide) ?_
  refine r_iload_n 2 d_Mod_at_2 rfl rfl ?_
  refine r_imul d_Mod_at_3 ?_
  refine r_bipush d_Mod_at_4 (by decide) ?_
  refine r_iload_n 0 d_Mod_at_6 rfl rfl ?_
  refine r_imul d_Mod_at_7 ?_
  refine r_iadd d_Mod_at_8 ?_
  refine r_iload_n 1 d_Mod_at_9 rfl rfl ?_
  refine r_iadd d_Mod_at_10 ?_
  refine q_iret d_Mod_at_11 rfl ?_
  exact ⟨rfl, rfl⟩
/-- the reference's streets -/
def SR (σ D : sto) : Prop := ∀ a b h : Int, 0 ≤ a → a < 8 → 0 ≤ b → b < 8 → 0 ≤ h → h < 8 → σ 170 (64 * h + 8 * a + b) = tk D a b h
theorem SR.keep {σ σ' D : sto} (h : SR σ D) (hF : ∀ i, σ' 170 i = σ 170 i) : SR σ' D := fun a b k a0 a1 b0 b1 k0 k1 => by rw [hF]; exact h a b k a0 a1 b0 b1 k0 k1
theorem lat_mn {f : Int → Int} {h x : Int} (h0 : 0 ≤ h) (h1 : h < 8) : mn x (lat f h) = mn (if 60 * h + f h < x then 60 * h + f h else x) (lat f (h + 1)) := by
  rw [lat_step h0 h1]
  unfold mn
  by_cases q : h * 60 + f h < lat f (h + 1)
  · rw [if_pos q]
    by_cases r : 60 * h + f h < x
    · rw [if_pos r, if_pos (by omega), if_neg (by omega)]; omega
    · rw [if_neg r, if_neg (by omega), if_neg (by omega)]
  · rw [if_neg q]
    by_cases r : 60 * h + f h < x
    · rw [if_pos r, if_pos (by omega)]; split <;> omega
    · rw [if_neg r]
theorem mt_over {σ D : sto} {a b t : Int} (hS : SOK D) (hR : SR σ D) (a0 : 0 ≤ a) (a1 : a < 8) (b0 : 0 ≤ b) (b1 : b < 8) (t0 : 0 ≤ t) (t1 : t < 1000000) : CI M_Mod_over 1 [vR 169, vI a, vI b, vI t] σ (fun r σ' => r = ov D a b t ∧ σ' = σ) := by
  have hr := fun h h0 h1 => hR a b h a0 a1 b0 b1 h0 h1
  have hr0 := hr 0 (by omega) (by omega)
  have hso := (hS a b a0 a1 b0 b1).2.1
  have hti : ∀ h, 0 ≤ h → h < 8 → 0 ≤ tk D a b h ∧ tk D a b h ≤ 99 := fun h h0 h1 => by rcases hso with q | q <;> have := q h h0 h1 <;> omega
  have ht0 := hti 0 (by omega) (by omega)
  have L : t < 480 → tk D a b 0 ≠ 0 → ∀ h, 0 ≤ h → h ≤ 8 → ∀ (x : Int), 0 ≤ x → x ≤ 1000 → mn x (lat (tk D a b) h) = ov D a b t → Run M_Mod_over (rxI 1 (fun r σ' => r = ov D a b t ∧ σ' = σ)) (0, 0) 50 [vR 169, vI a, vI b, vI t, vI x, vI h, vU] [] (sg σ) := by
    intro tt tz
    refine up_ind (b := 8) ?_ ?_
    · intro x x0 x1 hx
      rw [lat_8] at hx
      unfold mn at hx
      rw [if_neg (by omega)] at hx
      refine r_iload 5 d_Mod_over_50 rfl ?_
      refine r_bipush d_Mod_over_52 (by decide) ?_
      refine r_icmp_ge 94 d_Mod_over_54 rfl (by omega) (by omega) (fun h54 => ?_) (fun h54 => absurd h54 (by omega))
      refine r_iload 4 d_Mod_over_94 rfl ?_
      refine q_iret d_Mod_over_96 rfl ?_
      exact ⟨hx, rfl⟩
    · intro h h0 h1 ih x x0 x1 hx
      have hrh := hr h h0 h1
      have hth := hti h h0 h1
      have hst := lat_step (f := tk D a b) h0 h1
      refine r_iload 5 d_Mod_over_50 rfl ?_
      refine r_bipush d_Mod_over_52 (by decide) ?_
      refine r_icmp_ge 94 d_Mod_over_54 rfl (by omega) (by omega) (fun h54 => absurd h54 (by omega)) (fun h54 => ?_)
      refine r_bipush d_Mod_over_57 (by decide) ?_
      refine r_iload 5 d_Mod_over_59 rfl ?_
      refine r_imul d_Mod_over_61 ?_
      refine r_aload_n 0 d_Mod_over_62 rfl rfl ?_
      refine r_getR 170 d_Mod_over_63 fk_Mod_7 rfl rfl rfl (by decide) ?_
      refine r_iload_n 1 d_Mod_over_66 rfl rfl ?_
      refine r_iload_n 2 d_Mod_over_67 rfl rfl ?_
      refine r_iload 5 d_Mod_over_68 rfl ?_
      refine r_cSP d_Mod_over_70 lk_Mod_108 sc_Mod_at mt_at rfl rfl ⟨Nat.le_of_ble_eq_true rfl, Nat.le_of_ble_eq_true rfl⟩ ⟨Nat.zero_le _, Nat.zero_le _⟩ (Nat.le_of_ble_eq_true rfl) ?_
      refine r_iald 512 d_Mod_over_73 rfl rfl (by omega) (by omega) ?_
      rw [hrh]
      refine r_iadd d_Mod_over_74 ?_
      refine r_istore 6 d_Mod_over_75 (by decide) rfl ?_
      refine r_iload 6 d_Mod_over_77 rfl ?_
      refine r_iload 4 d_Mod_over_79 rfl ?_
      refine r_icmp_ge 88 d_Mod_over_81 rfl (by omega) (by omega) (fun h81 => ?_) (fun h81 => ?_)
      · refine r_iinc 5 d_Mod_over_88 rfl (by decide) rfl ?_
        refine r_goto 50 d_Mod_over_91 rfl ?_
        refine r_drop 6 (ih _ (by omega) (by omega) ?_)
        rw [← hx, lat_mn h0 h1]
        first | rw [if_pos (by omega)] | rw [if_neg (by omega)]
      · refine r_iload 6 d_Mod_over_84 rfl ?_
        refine r_istore 4 d_Mod_over_86 (by decide) rfl ?_
        refine r_iinc 5 d_Mod_over_88 rfl (by decide) rfl ?_
        refine r_goto 50 d_Mod_over_91 rfl ?_
        refine r_drop 6 (ih _ (by omega) (by omega) ?_)
        rw [← hx, lat_mn h0 h1]
        first | rw [if_pos (by omega)] | rw [if_neg (by omega)]
  refine ci_of [vR 169, vI a, vI b, vI t, vU, vU, vU] fy_Mod_over.1 rfl (Nat.le_of_ble_eq_true rfl) ?_
  refine r_iload_n 3 d_Mod_over_0 rfl rfl ?_
  refine r_sipush d_Mod_over_1 (by decide) ?_
  refine r_icmp_ge 21 d_Mod_over_4 rfl (by omega) (by omega) (fun h4 => ?_) (fun h4 => ?_)
  · refine r_ldc kc_Mod_112 d_Mod_over_21 ?_
    refine q_iret d_Mod_over_23 rfl ?_
    exact ⟨by unfold ov; rw [if_pos (by omega)], rfl⟩
  · refine r_aload_n 0 d_Mod_over_7 rfl rfl ?_
    refine r_getR 170 d_Mod_over_8 fk_Mod_7 rfl rfl rfl (by decide) ?_
    refine r_iload_n 1 d_Mod_over_11 rfl rfl ?_
    refine r_iload_n 2 d_Mod_over_12 rfl rfl ?_
    refine r_iconst d_Mod_over_13 ?_
    refine r_cSP d_Mod_over_14 lk_Mod_108 sc_Mod_at mt_at rfl rfl ⟨Nat.le_of_ble_eq_true rfl, Nat.le_of_ble_eq_true rfl⟩ ⟨Nat.zero_le _, Nat.zero_le _⟩ (Nat.le_of_ble_eq_true rfl) ?_
    refine r_iald 512 d_Mod_over_17 rfl rfl (by omega) (by omega) ?_
    rw [show 64 * 0 + 8 * a + b = 64 * 0 + 8 * a + b from rfl, hr0]
    refine r_if_ne 24 d_Mod_over_18 rfl (by omega) (fun h18 => ?_) (fun h18 => ?_)
    · refine r_iload_n 3 d_Mod_over_24 rfl rfl ?_
      refine r_aload_n 0 d_Mod_over_25 rfl rfl ?_
      refine r_getR 170 d_Mod_over_26 fk_Mod_7 rfl rfl rfl (by decide) ?_
      refine r_iload_n 1 d_Mod_over_29 rfl rfl ?_
      refine r_iload_n 2 d_Mod_over_30 rfl rfl ?_
      refine r_iload_n 3 d_Mod_over_31 rfl rfl ?_
      refine r_bipush d_Mod_over_32 (by decide) ?_
      refine r_idiv d_Mod_over_34 (by omega) (by omega) ?_
      refine r_cSP d_Mod_over_35 lk_Mod_108 sc_Mod_at mt_at rfl rfl ⟨Nat.le_of_ble_eq_true rfl, Nat.le_of_ble_eq_true rfl⟩ ⟨Nat.zero_le _, Nat.zero_le _⟩ (Nat.le_of_ble_eq_true rfl) ?_
      refine r_iald 512 d_Mod_over_38 rfl rfl (by omega) (by omega) ?_
      have hrt := hr (t / 60) (by omega) (by omega)
      have htt := hti (t / 60) (by omega) (by omega)
      rw [hrt]
      refine r_iadd d_Mod_over_39 ?_
      refine r_istore 4 d_Mod_over_40 (by decide) rfl ?_
      refine r_iload_n 3 d_Mod_over_42 rfl rfl ?_
      refine r_bipush d_Mod_over_43 (by decide) ?_
      refine r_idiv d_Mod_over_45 (by omega) (by omega) ?_
      refine r_iconst d_Mod_over_46 ?_
      refine r_iadd d_Mod_over_47 ?_
      refine r_istore 5 d_Mod_over_48 (by decide) rfl ?_
      exact L (by omega) (by omega) _ (by omega) (by omega) _ (by omega) (by omega) (by unfold ov; rw [if_neg (by omega)])
    · refine r_ldc kc_Mod_112 d_Mod_over_21 ?_
      refine q_iret d_Mod_over_23 rfl ?_
      exact ⟨by unfold ov; rw [if_pos (by omega)], rfl⟩
def sm (f : Int → Int) : Int := f 0 + f 1 + f 2 + f 3 + f 4 + f 5 + f 6 + f 7
theorem sm_set {f g : Int → Int} {p v : Int} (p0 : 0 ≤ p) (p1 : p < 8) (h : ∀ i, i ≠ p → g i = f i) (hv : g p = v) : sm g = sm f - f p + v := by
  have hp : p = 0 ∨ p = 1 ∨ p = 2 ∨ p = 3 ∨ p = 4 ∨ p = 5 ∨ p = 6 ∨ p = 7 := by omega
  unfold sm
  rcases hp with rfl | rfl | rfl | rfl | rfl | rfl | rfl | rfl
  · rw [hv, h 1 (by omega), h 2 (by omega), h 3 (by omega), h 4 (by omega), h 5 (by omega), h 6 (by omega), h 7 (by omega)]; omega
  · rw [hv, h 0 (by omega), h 2 (by omega), h 3 (by omega), h 4 (by omega), h 5 (by omega), h 6 (by omega), h 7 (by omega)]; omega
  · rw [hv, h 0 (by omega), h 1 (by omega), h 3 (by omega), h 4 (by omega), h 5 (by omega), h 6 (by omega), h 7 (by omega)]; omega
  · rw [hv, h 0 (by omega), h 1 (by omega), h 2 (by omega), h 4 (by omega), h 5 (by omega), h 6 (by omega), h 7 (by omega)]; omega
  · rw [hv, h 0 (by omega), h 1 (by omega), h 2 (by omega), h 3 (by omega), h 5 (by omega), h 6 (by omega), h 7 (by omega)]; omega
  · rw [hv, h 0 (by omega), h 1 (by omega), h 2 (by omega), h 3 (by omega), h 4 (by omega), h 6 (by omega), h 7 (by omega)]; omega
  · rw [hv, h 0 (by omega), h 1 (by omega), h 2 (by omega), h 3 (by omega), h 4 (by omega), h 5 (by omega), h 7 (by omega)]; omega
  · rw [hv, h 0 (by omega), h 1 (by omega), h 2 (by omega), h 3 (by omega), h 4 (by omega), h 5 (by omega), h 6 (by omega)]; omega
theorem sm_all {f : Int → Int} (h : ∀ p, 0 ≤ p → p < 8 → f p = 1) : sm f = 8 := by
  unfold sm
  rw [h 0 (by omega) (by omega), h 1 (by omega) (by omega), h 2 (by omega) (by omega), h 3 (by omega) (by omega), h 4 (by omega) (by omega), h 5 (by omega) (by omega), h 6 (by omega) (by omega), h 7 (by omega) (by omega)]; omega
theorem sm_no {f : Int → Int} (h : ∀ p, 0 ≤ p → p < 8 → f p = 0) : sm f = 0 := by
  unfold sm
  rw [h 0 (by omega) (by omega), h 1 (by omega) (by omega), h 2 (by omega) (by omega), h 3 (by omega) (by omega), h 4 (by omega) (by omega), h 5 (by omega) (by omega), h 6 (by omega) (by omega), h 7 (by omega) (by omega)]; omega
/-- how far the search is -/
def JD (D : sto) (a t : Int) (d e : Int → Int) (k : Int) : Prop := (∀ p, 0 ≤ p → p < 8 → (e p = 0 ∨ e p = 1) ∧ t ≤ d p ∧ d p ≤ 1000000 ∧ ∃ n, bf D a t n p ≤ d p) ∧ d a ≤ t ∧ (∀ p q, 0 ≤ p → p < 8 → 0 ≤ q → q < 8 → e p = 1 → d q ≤ ov D p q (d p)) ∧ (∀ p q, 0 ≤ p → p < 8 → 0 ≤ q → q < 8 → e p = 1 → e q = 0 → d p ≤ d q) ∧ sm e = k
theorem ov_self {D : sto} (hS : SOK D) {p t : Int} (p0 : 0 ≤ p) (p1 : p < 8) : ov D p p t = 1000000 := by
  unfold ov; rw [if_pos (Or.inr ((hS p p p0 p1 p0 p1).2.2 rfl 0 (by omega) (by omega)))]
theorem ov_hi {D : sto} {p q t : Int} (h : 480 ≤ t) : ov D p q t = 1000000 := by unfold ov; rw [if_pos (Or.inl h)]
theorem sm_hi {f : Int → Int} (h : ∀ p, 0 ≤ p → p < 8 → f p = 0 ∨ f p = 1) (h8 : sm f = 8) : ∀ p, 0 ≤ p → p < 8 → f p = 1 := by
  intro p p0 p1
  have a0 := h 0 (by omega) (by omega); have a1 := h 1 (by omega) (by omega); have a2 := h 2 (by omega) (by omega); have a3 := h 3 (by omega) (by omega)
  have a4 := h 4 (by omega) (by omega); have a5 := h 5 (by omega) (by omega); have a6 := h 6 (by omega) (by omega); have a7 := h 7 (by omega) (by omega)
  unfold sm at h8
  have hp : p = 0 ∨ p = 1 ∨ p = 2 ∨ p = 3 ∨ p = 4 ∨ p = 5 ∨ p = 6 ∨ p = 7 := by omega
  rcases hp with rfl | rfl | rfl | rfl | rfl | rfl | rfl | rfl <;> omega
theorem JD.step {D : sto} {a t k x : Int} {d e d' e' : Int → Int} (hS : SOK D) (t0 : 0 ≤ t) (h : JD D a t d e k) (x0 : 0 ≤ x) (x1 : x < 8) (hx : e x = 0) (hm : ∀ q, 0 ≤ q → q < 8 → e q = 0 → d x ≤ d q) (a0 : 0 ≤ a) (a1 : a < 8)
    (he : ∀ i, i ≠ x → e' i = e i) (hex : e' x = 1) (hd : ∀ q, 0 ≤ q → q < 8 → d' q = mn (d q) (ov D x q (d x))) : JD D a t d' e' (k + 1) := by
  obtain ⟨j1, j2, j3, j4, j5⟩ := h
  have hx4 := j1 x x0 x1
  have ge : ∀ q, 0 ≤ q → q < 8 → d x < 1000000 → d x < ov D x q (d x) := fun q q0 q1 z => (ov_in hS x0 x1 q0 q1 (by omega) z).1
  have big : ¬ d x < 1000000 → ∀ q, ov D x q (d x) = 1000000 := fun z q => ov_hi (by omega)
  have dx : d' x = d x := by rw [hd x x0 x1, ov_self hS x0 x1]; unfold mn; rw [if_neg (by omega)]
  have lo : ∀ q, 0 ≤ q → q < 8 → d' q ≤ d q ∧ d' q ≤ ov D x q (d x) := fun q q0 q1 => by rw [hd q q0 q1]; unfold mn; split <;> omega
  have eq : ∀ q, 0 ≤ q → q < 8 → e q = 1 → d' q = d q := fun q q0 q1 z => by
    have c := j4 q x q0 q1 x0 x1 z hx
    rw [hd q q0 q1]; unfold mn
    rw [if_neg]
    by_cases y : d x < 1000000
    · have := ge q q0 q1 y; omega
    · rw [big y q]; have := (j1 q q0 q1).2.2.1; omega
  have ok : ∀ q, 0 ≤ q → q < 8 → d x ≤ d q → d x ≤ d' q := fun q q0 q1 z => by
    rw [hd q q0 q1]; unfold mn
    split
    · by_cases y : d x < 1000000
      · have := ge q q0 q1 y; omega
      · rw [big y q]; omega
    · exact z
  refine ⟨fun p p0 p1 => ?_, by have := (lo a a0 a1).1; omega, fun p q p0 p1 q0 q1 hp => ?_, fun p q p0 p1 q0 q1 hp hq => ?_, ?_⟩
  · obtain ⟨c1, c2, c3, n, c4⟩ := j1 p p0 p1
    refine ⟨?_, ?_, by have := (lo p p0 p1).1; omega, ?_⟩
    · by_cases z : p = x
      · rw [z]; exact Or.inr hex
      · rw [he p z]; exact c1
    · rw [hd p p0 p1]; unfold mn
      split
      · by_cases y : d x < 1000000
        · have := ge p p0 p1 y; omega
        · rw [big y p]; omega
      · exact c2
    · rw [hd p p0 p1]; unfold mn
      split
      · obtain ⟨n', c5⟩ := hx4.2.2.2
        refine ⟨n' + 1, Int.le_trans (bf_relax n' x0 x1) (ov_mono hS x0 x1 p0 p1 ?_ c5)⟩
        have := (bf_in (a := a) hS t0 (by omega) n' x x0 x1).1
        omega
      · exact ⟨n, c4⟩
  · by_cases z : p = x
    · rw [z, dx]; exact (lo q q0 q1).2
    · rw [he p z] at hp
      have := j3 p q p0 p1 q0 q1 hp
      rw [eq p p0 p1 hp]
      exact Int.le_trans (lo q q0 q1).1 this
  · have hqx : q ≠ x := fun z => by rw [z, hex] at hq; omega
    rw [he q hqx] at hq
    by_cases z : p = x
    · rw [z, dx]; exact ok q q0 q1 (hm q q0 q1 hq)
    · rw [he p z] at hp
      rw [eq p p0 p1 hp]
      have c1 := j4 p x p0 p1 x0 x1 hp hx
      have c2 := ok q q0 q1 (hm q q0 q1 hq)
      omega
  · have := sm_set (f := e) (g := e') (p := x) (v := 1) x0 x1 he hex
    rw [this, hx, j5]; omega
theorem JD.rw {D : sto} {a t : Int} {d e : Int → Int} (h : JD D a t d e 8) : RW D a t d := by
  have h1 := sm_hi (fun p p0 p1 => (h.1 p p0 p1).1) h.2.2.2.2
  exact ⟨h.2.1, fun p p0 p1 => ⟨(h.1 p p0 p1).2.2.1, (h.1 p p0 p1).2.2.2⟩, fun p q p0 p1 q0 q1 => h.2.2.1 p q p0 p1 q0 q1 (h1 p p0 p1)⟩
theorem mt_wayOf {σ D : sto} {a b t : Int} (hS : SOK D) (hR : SR σ D) (a0 : 0 ≤ a) (a1 : a < 8) (b0 : 0 ≤ b) (b1 : b < 8) (t0 : 0 ≤ t) (t1 : t ≤ 1000000) : CI M_Mod_wayOf 2 [vR 169, vI a, vI b, vI t] σ (fun r σ' => r = way D a b t ∧ ∀ c i : Int, c ≠ 189 → c ≠ 190 → σ' c i = σ c i) := by
  have LK : ∀ k, 0 ≤ k → k ≤ 8 → ∀ (σ1 : sto), (∀ c i : Int, c ≠ 189 → c ≠ 190 → σ1 c i = σ c i) → JD D a t (σ1 189) (σ1 190) k → Run M_Mod_wayOf (rxI 2 (fun r σ' => r = way D a b t ∧ ∀ c i : Int, c ≠ 189 → c ≠ 190 → σ' c i = σ c i)) (0, 0) 46 [vR 169, vI a, vI b, vI t, vI k, vU, vU, vU] [] (sg σ1) := by
    refine up_ind (b := 8) ?_ ?_
    · intro σ1 hF hJ
      have hw := way_of hS a0 a1 t0 t1 hJ.rw b0 b1
      refine r_iload 4 d_Mod_wayOf_46 rfl ?_
      refine r_bipush d_Mod_wayOf_48 (by decide) ?_
      refine r_icmp_ge 200 d_Mod_wayOf_50 rfl (by omega) (by omega) (fun h50 => ?_) (fun h50 => absurd h50 (by omega))
      refine r_aload_n 0 d_Mod_wayOf_200 rfl rfl ?_
      refine r_getR 189 d_Mod_wayOf_201 fk_Mod_67 rfl rfl rfl (by decide) ?_
      refine r_iload_n 2 d_Mod_wayOf_204 rfl rfl ?_
      refine r_iald 8 d_Mod_wayOf_205 rfl rfl (by omega) (by omega) ?_
      refine q_iret d_Mod_wayOf_206 rfl ?_
      exact ⟨hw, hF⟩
    · intro k k0 k1 ih σ1 hF hJ
      have j1 := hJ.1
      have k194 : ∀ (σ2 : sto), (∀ c i : Int, c ≠ 189 → c ≠ 190 → σ2 c i = σ c i) → JD D a t (σ2 189) (σ2 190) (k + 1) → Run M_Mod_wayOf (rxI 2 (fun r σ' => r = way D a b t ∧ ∀ c i : Int, c ≠ 189 → c ≠ 190 → σ' c i = σ c i)) (0, 0) 194 [vR 169, vI a, vI b, vI t, vI k, vU, vU, vU] [] (sg σ2) := by
        intro σ2 hF2 hJ2
        refine r_iinc 4 d_Mod_wayOf_194 rfl (by decide) rfl ?_
        refine r_goto 46 d_Mod_wayOf_197 rfl ?_
        exact ih σ2 hF2 hJ2
      have k108 : ∀ (x : Int), 0 ≤ x → x < 8 → σ1 190 x = 0 → (∀ q, 0 ≤ q → q < 8 → σ1 190 q = 0 → σ1 189 x ≤ σ1 189 q) → Run M_Mod_wayOf (rxI 2 (fun r σ' => r = way D a b t ∧ ∀ c i : Int, c ≠ 189 → c ≠ 190 → σ' c i = σ c i)) (0, 0) 108 [vR 169, vI a, vI b, vI t, vI k, vI x, vU, vU] [] (sg σ1) := by
        intro x x0 x1 hx hm
        have hx4 := j1 x x0 x1
        have fin : ∀ (σ2 : sto), (∀ c i : Int, c ≠ 189 → c ≠ 190 → σ2 c i = σ c i) → (∀ i, i ≠ x → σ2 190 i = σ1 190 i) → σ2 190 x = 1 → (∀ q, 0 ≤ q → q < 8 → σ2 189 q = mn (σ1 189 q) (ov D x q (σ1 189 x))) → JD D a t (σ2 189) (σ2 190) (k + 1) := fun σ2 _ z1 z2 z3 => hJ.step hS t0 x0 x1 hx hm a0 a1 z1 z2 z3
        have LP : σ1 189 x < 1000000 → ∀ p, 0 ≤ p → p ≤ 8 → ∀ (σ2 : sto), (∀ c i : Int, c ≠ 189 → c ≠ 190 → σ2 c i = σ c i) → (∀ i, i ≠ x → σ2 190 i = σ1 190 i) → σ2 190 x = 1 → (∀ q, 0 ≤ q → q < 8 → σ2 189 q = if q < p then mn (σ1 189 q) (ov D x q (σ1 189 x)) else σ1 189 q) → Run M_Mod_wayOf (rxI 2 (fun r σ' => r = way D a b t ∧ ∀ c i : Int, c ≠ 189 → c ≠ 190 → σ' c i = σ c i)) (0, 0) 119 [vR 169, vI a, vI b, vI t, vI k, vI x, vI p, vU] [] (sg σ2) := by
          intro hlt
          refine up_ind (b := 8) ?_ ?_
          · intro σ2 hF2 z1 z2 z3
            refine r_iload 6 d_Mod_wayOf_119 rfl ?_
            refine r_bipush d_Mod_wayOf_121 (by decide) ?_
            refine r_icmp_ge 194 d_Mod_wayOf_123 rfl (by omega) (by omega) (fun h123 => ?_) (fun h123 => absurd h123 (by omega))
            exact r_drop 5 (r_drop 6 (r_drop 7 (k194 _ hF2 (fin σ2 hF2 z1 z2 (fun q q0 q1 => by rw [z3 q q0 q1, if_pos q1])))))
          · intro p p0 p1 ihp σ2 hF2 z1 z2 z3
            have hdx : σ2 189 x = σ1 189 x := by
              rw [z3 x x0 x1, ov_self hS x0 x1]
              unfold mn
              split
              · rw [if_neg (by omega)]
              · rfl
            have hdp : σ2 189 p = σ1 189 p := by rw [z3 p p0 p1, if_neg (by omega)]
            have hjp := j1 p p0 p1
            have hov := ov_in hS x0 x1 p0 p1 (t := σ1 189 x) (by omega) hlt
            have k188 : ∀ (σ3 : sto), (∀ c i : Int, c ≠ 189 → σ3 c i = σ2 c i) → (∀ q, 0 ≤ q → q < 8 → σ3 189 q = if q = p then mn (σ1 189 p) (ov D x p (σ1 189 x)) else σ2 189 q) → Run M_Mod_wayOf (rxI 2 (fun r σ' => r = way D a b t ∧ ∀ c i : Int, c ≠ 189 → c ≠ 190 → σ' c i = σ c i)) (0, 0) 188 [vR 169, vI a, vI b, vI t, vI k, vI x, vI p, vU] [] (sg σ3) := by
              intro σ3 y1 y2
              refine r_iinc 6 d_Mod_wayOf_188 rfl (by decide) rfl ?_
              refine r_goto 119 d_Mod_wayOf_191 rfl ?_
              refine ihp σ3 (fun c i w1 w2 => by rw [y1 c i w1]; exact hF2 c i w1 w2) (fun i w => by rw [y1 190 i (by omega)]; exact z1 i w) (by rw [y1 190 x (by omega)]; exact z2) (fun q q0 q1 => ?_)
              rw [y2 q q0 q1]
              by_cases w : q = p
              · rw [if_pos w, if_pos (by omega), w]
              · rw [if_neg w, z3 q q0 q1]
                by_cases w2 : q < p
                · rw [if_pos w2, if_pos (by omega)]
                · rw [if_neg w2, if_neg (by omega)]
            refine r_iload 6 d_Mod_wayOf_119 rfl ?_
            refine r_bipush d_Mod_wayOf_121 (by decide) ?_
            refine r_icmp_ge 194 d_Mod_wayOf_123 rfl (by omega) (by omega) (fun h123 => absurd h123 (by omega)) (fun h123 => ?_)
            refine r_aload_n 0 d_Mod_wayOf_126 rfl rfl ?_
            refine r_getR 189 d_Mod_wayOf_127 fk_Mod_67 rfl rfl rfl (by decide) ?_
            refine r_iload 5 d_Mod_wayOf_130 rfl ?_
            refine r_iald 8 d_Mod_wayOf_132 rfl rfl (by omega) (by omega) ?_
            rw [hdx]
            refine r_ldc kc_Mod_112 d_Mod_wayOf_133 ?_
            refine r_icmp_ge 194 d_Mod_wayOf_135 rfl (by omega) (by omega) (fun h135 => absurd h135 (by omega)) (fun h135 => ?_)
            refine r_iload 6 d_Mod_wayOf_138 rfl ?_
            refine r_iload 5 d_Mod_wayOf_140 rfl ?_
            refine r_icmp_ne 150 d_Mod_wayOf_142 rfl (by omega) (by omega) (fun h142 => ?_) (fun h142 => ?_)
            · refine r_aload_n 0 d_Mod_wayOf_150 rfl rfl ?_
              refine r_iload 5 d_Mod_wayOf_151 rfl ?_
              refine r_iload 6 d_Mod_wayOf_153 rfl ?_
              refine r_aload_n 0 d_Mod_wayOf_155 rfl rfl ?_
              refine r_getR 189 d_Mod_wayOf_156 fk_Mod_67 rfl rfl rfl (by decide) ?_
              refine r_iload 5 d_Mod_wayOf_159 rfl ?_
              refine r_iald 8 d_Mod_wayOf_161 rfl rfl (by omega) (by omega) ?_
              rw [hdx]
              refine r_cVP 8 d_Mod_wayOf_162 lk_Mod_113 vc_Mod_over (mt_over hS (hR.keep (fun i => hF2 170 i (by omega) (by omega))) x0 x1 p0 p1 (by omega) hlt) rfl rfl rfl rfl ⟨Nat.le_of_ble_eq_true rfl, Nat.le_of_ble_eq_true rfl⟩ ⟨Nat.zero_le _, Nat.zero_le _⟩ (Nat.le_of_ble_eq_true rfl) ?_
              refine r_istore 7 d_Mod_wayOf_165 (by decide) rfl ?_
              refine r_iload 7 d_Mod_wayOf_167 rfl ?_
              refine r_aload_n 0 d_Mod_wayOf_169 rfl rfl ?_
              refine r_getR 189 d_Mod_wayOf_170 fk_Mod_67 rfl rfl rfl (by decide) ?_
              refine r_iload 6 d_Mod_wayOf_173 rfl ?_
              refine r_iald 8 d_Mod_wayOf_175 rfl rfl (by omega) (by omega) ?_
              rw [hdp]
              refine r_icmp_ge 188 d_Mod_wayOf_176 rfl (by omega) (by omega) (fun h176 => ?_) (fun h176 => ?_)
              · first
                  | (exfalso; omega)
                  | (refine r_drop 7 (k188 _ (fun c i w => wr_ne (Or.inl w)) (fun q q0 q1 => ?_))
                     by_cases w : q = p
                     · rw [if_pos w, w, wr_eq]; unfold mn; rw [if_pos (by omega)]
                     · rw [if_neg w, wr_ne (Or.inr w)])
                  | (refine r_drop 7 (k188 _ (fun c i w => rfl) (fun q q0 q1 => ?_))
                     by_cases w : q = p
                     · rw [if_pos w, w, hdp]; unfold mn; rw [if_neg (by omega)]
                     · rw [if_neg w])
                  | (refine r_drop 7 (k188 _ (fun c i w => rfl) (fun q q0 q1 => ?_))
                     have ho : ov D x p (σ1 189 x) = 1000000 := by rw [show p = x by omega]; exact ov_self hS x0 x1
                     by_cases w : q = p
                     · rw [if_pos w, w, hdp, ho]; unfold mn; rw [if_neg (by omega)]
                     · rw [if_neg w])
              · refine r_aload_n 0 d_Mod_wayOf_179 rfl rfl ?_
                refine r_getR 189 d_Mod_wayOf_180 fk_Mod_67 rfl rfl rfl (by decide) ?_
                refine r_iload 6 d_Mod_wayOf_183 rfl ?_
                refine r_iload 7 d_Mod_wayOf_185 rfl ?_
                refine r_iast 8 d_Mod_wayOf_187 rfl rfl (by omega) (by omega) ?_
                first
                  | (exfalso; omega)
                  | (refine r_drop 7 (k188 _ (fun c i w => wr_ne (Or.inl w)) (fun q q0 q1 => ?_))
                     by_cases w : q = p
                     · rw [if_pos w, w, wr_eq]; unfold mn; rw [if_pos (by omega)]
                     · rw [if_neg w, wr_ne (Or.inr w)])
                  | (refine r_drop 7 (k188 _ (fun c i w => rfl) (fun q q0 q1 => ?_))
                     by_cases w : q = p
                     · rw [if_pos w, w, hdp]; unfold mn; rw [if_neg (by omega)]
                     · rw [if_neg w])
                  | (refine r_drop 7 (k188 _ (fun c i w => rfl) (fun q q0 q1 => ?_))
                     have ho : ov D x p (σ1 189 x) = 1000000 := by rw [show p = x by omega]; exact ov_self hS x0 x1
                     by_cases w : q = p
                     · rw [if_pos w, w, hdp, ho]; unfold mn; rw [if_neg (by omega)]
                     · rw [if_neg w])
            · refine r_ldc kc_Mod_112 d_Mod_wayOf_145 ?_
              refine r_goto 165 d_Mod_wayOf_147 rfl ?_
              refine r_istore 7 d_Mod_wayOf_165 (by decide) rfl ?_
              refine r_iload 7 d_Mod_wayOf_167 rfl ?_
              refine r_aload_n 0 d_Mod_wayOf_169 rfl rfl ?_
              refine r_getR 189 d_Mod_wayOf_170 fk_Mod_67 rfl rfl rfl (by decide) ?_
              refine r_iload 6 d_Mod_wayOf_173 rfl ?_
              refine r_iald 8 d_Mod_wayOf_175 rfl rfl (by omega) (by omega) ?_
              rw [hdp]
              refine r_icmp_ge 188 d_Mod_wayOf_176 rfl (by omega) (by omega) (fun h176 => ?_) (fun h176 => ?_)
              · first
                  | (exfalso; omega)
                  | (refine r_drop 7 (k188 _ (fun c i w => wr_ne (Or.inl w)) (fun q q0 q1 => ?_))
                     by_cases w : q = p
                     · rw [if_pos w, w, wr_eq]; unfold mn; rw [if_pos (by omega)]
                     · rw [if_neg w, wr_ne (Or.inr w)])
                  | (refine r_drop 7 (k188 _ (fun c i w => rfl) (fun q q0 q1 => ?_))
                     by_cases w : q = p
                     · rw [if_pos w, w, hdp]; unfold mn; rw [if_neg (by omega)]
                     · rw [if_neg w])
                  | (refine r_drop 7 (k188 _ (fun c i w => rfl) (fun q q0 q1 => ?_))
                     have ho : ov D x p (σ1 189 x) = 1000000 := by rw [show p = x by omega]; exact ov_self hS x0 x1
                     by_cases w : q = p
                     · rw [if_pos w, w, hdp, ho]; unfold mn; rw [if_neg (by omega)]
                     · rw [if_neg w])
              · refine r_aload_n 0 d_Mod_wayOf_179 rfl rfl ?_
                refine r_getR 189 d_Mod_wayOf_180 fk_Mod_67 rfl rfl rfl (by decide) ?_
                refine r_iload 6 d_Mod_wayOf_183 rfl ?_
                refine r_iload 7 d_Mod_wayOf_185 rfl ?_
                refine r_iast 8 d_Mod_wayOf_187 rfl rfl (by omega) (by omega) ?_
                first
                  | (exfalso; omega)
                  | (refine r_drop 7 (k188 _ (fun c i w => wr_ne (Or.inl w)) (fun q q0 q1 => ?_))
                     by_cases w : q = p
                     · rw [if_pos w, w, wr_eq]; unfold mn; rw [if_pos (by omega)]
                     · rw [if_neg w, wr_ne (Or.inr w)])
                  | (refine r_drop 7 (k188 _ (fun c i w => rfl) (fun q q0 q1 => ?_))
                     by_cases w : q = p
                     · rw [if_pos w, w, hdp]; unfold mn; rw [if_neg (by omega)]
                     · rw [if_neg w])
                  | (refine r_drop 7 (k188 _ (fun c i w => rfl) (fun q q0 q1 => ?_))
                     have ho : ov D x p (σ1 189 x) = 1000000 := by rw [show p = x by omega]; exact ov_self hS x0 x1
                     by_cases w : q = p
                     · rw [if_pos w, w, hdp, ho]; unfold mn; rw [if_neg (by omega)]
                     · rw [if_neg w])
        have hxx : ∀ q, wr σ1 190 x 1 189 q = σ1 189 q := fun q => wr_ne (by omega)
        by_cases hlt : σ1 189 x < 1000000
        · refine r_aload_n 0 d_Mod_wayOf_108 rfl rfl ?_
          refine r_getR 190 d_Mod_wayOf_109 fk_Mod_70 rfl rfl rfl (by decide) ?_
          refine r_iload 5 d_Mod_wayOf_112 rfl ?_
          refine r_iconst d_Mod_wayOf_114 ?_
          refine r_bast 8 d_Mod_wayOf_115 rfl rfl (by omega) (by omega) (by omega) ?_
          refine r_iconst d_Mod_wayOf_116 ?_
          refine r_istore 6 d_Mod_wayOf_117 (by decide) rfl ?_
          refine r_drop 7 (LP hlt 0 (by omega) (by omega) _ (fun c i w1 w2 => by rw [wr_ne (by omega)]; exact hF c i w1 w2) (fun i w => wr_ne (Or.inr w)) wr_eq (fun q q0 q1 => ?_))
          rw [if_neg (by omega)]; exact hxx q
        · refine r_aload_n 0 d_Mod_wayOf_108 rfl rfl ?_
          refine r_getR 190 d_Mod_wayOf_109 fk_Mod_70 rfl rfl rfl (by decide) ?_
          refine r_iload 5 d_Mod_wayOf_112 rfl ?_
          refine r_iconst d_Mod_wayOf_114 ?_
          refine r_bast 8 d_Mod_wayOf_115 rfl rfl (by omega) (by omega) (by omega) ?_
          refine r_iconst d_Mod_wayOf_116 ?_
          refine r_istore 6 d_Mod_wayOf_117 (by decide) rfl ?_
          refine r_iload 6 d_Mod_wayOf_119 rfl ?_
          refine r_bipush d_Mod_wayOf_121 (by decide) ?_
          refine r_icmp_ge 194 d_Mod_wayOf_123 rfl (by omega) (by omega) (fun h123 => absurd h123 (by omega)) (fun h123 => ?_)
          refine r_aload_n 0 d_Mod_wayOf_126 rfl rfl ?_
          refine r_getR 189 d_Mod_wayOf_127 fk_Mod_67 rfl rfl rfl (by decide) ?_
          refine r_iload 5 d_Mod_wayOf_130 rfl ?_
          refine r_iald 8 d_Mod_wayOf_132 rfl rfl (by omega) (by omega) ?_
          rw [hxx]
          refine r_ldc kc_Mod_112 d_Mod_wayOf_133 ?_
          refine r_icmp_ge 194 d_Mod_wayOf_135 rfl (by omega) (by omega) (fun h135 => ?_) (fun h135 => absurd h135 (by omega))
          refine r_drop 5 (r_drop 6 (r_drop 7 (k194 _ (fun c i w1 w2 => by rw [wr_ne (by omega)]; exact hF c i w1 w2) (fin _ (fun c i w1 w2 => by rw [wr_ne (by omega)]; exact hF c i w1 w2) (fun i w => wr_ne (Or.inr w)) wr_eq (fun q q0 q1 => ?_)))))
          rw [hxx, ov_hi (by omega)]
          have := (j1 q q0 q1).2.2.1
          unfold mn
          rw [if_neg (by omega)]
      have LN : ∀ p, 0 ≤ p → p ≤ 8 → ∀ (x : Int), (x = -1 ∧ (∀ q, 0 ≤ q → q < p → σ1 190 q = 1) ∨ (0 ≤ x ∧ x < 8) ∧ σ1 190 x = 0 ∧ ∀ q, 0 ≤ q → q < p → σ1 190 q = 0 → σ1 189 x ≤ σ1 189 q) → Run M_Mod_wayOf (rxI 2 (fun r σ' => r = way D a b t ∧ ∀ c i : Int, c ≠ 189 → c ≠ 190 → σ' c i = σ c i)) (0, 0) 59 [vR 169, vI a, vI b, vI t, vI k, vI x, vI p, vU] [] (sg σ1) := by
        refine up_ind (b := 8) ?_ ?_
        · intro x hx
          have hx2 := hx.resolve_left (fun q => by have := sm_all q.2; have := hJ.2.2.2.2; omega)
          refine r_iload 6 d_Mod_wayOf_59 rfl ?_
          refine r_bipush d_Mod_wayOf_61 (by decide) ?_
          refine r_icmp_ge 108 d_Mod_wayOf_63 rfl (by omega) (by omega) (fun h63 => ?_) (fun h63 => absurd h63 (by omega))
          exact r_drop 6 (k108 x hx2.1.1 hx2.1.2 hx2.2.1 hx2.2.2)
        · intro p p0 p1 ihp x hx
          have hjp := j1 p p0 p1
          have hxr : -1 ≤ x ∧ x < 8 := by omega
          refine r_iload 6 d_Mod_wayOf_59 rfl ?_
          refine r_bipush d_Mod_wayOf_61 (by decide) ?_
          refine r_icmp_ge 108 d_Mod_wayOf_63 rfl (by omega) (by omega) (fun h63 => absurd h63 (by omega)) (fun h63 => ?_)
          refine r_aload_n 0 d_Mod_wayOf_66 rfl rfl ?_
          refine r_getR 190 d_Mod_wayOf_67 fk_Mod_70 rfl rfl rfl (by decide) ?_
          refine r_iload 6 d_Mod_wayOf_70 rfl ?_
          refine r_bald 8 d_Mod_wayOf_72 rfl rfl (by omega) (by omega) ?_
          refine r_if_ne 102 d_Mod_wayOf_73 rfl (by omega) (fun h73 => ?_) (fun h73 => ?_)
          · refine r_iinc 6 d_Mod_wayOf_102 rfl (by decide) rfl ?_
            refine r_goto 59 d_Mod_wayOf_105 rfl ?_
            refine ihp _ ?_
            first
              | (rcases hx with ⟨z1, z2⟩ | ⟨z1, z2, z3⟩
                 · refine Or.inl ⟨z1, fun q q0 q1 => ?_⟩
                   by_cases e : q = p
                   · rw [e]; omega
                   · exact z2 q q0 (by omega)
                 · refine Or.inr ⟨z1, z2, fun q q0 q1 h => ?_⟩
                   by_cases e : q = p
                   · rw [e]; first | omega | (rw [e] at h; omega)
                   · exact z3 q q0 (by omega) h)
              | (refine Or.inr ⟨⟨p0, p1⟩, by omega, fun q q0 q1 h => ?_⟩
                 by_cases e : q = p
                 · rw [e]; exact Int.le_refl _
                 · rcases hx with ⟨z1, z2⟩ | ⟨z1, z2, z3⟩
                   · have := z2 q q0 (by omega); omega
                   · have := z3 q q0 (by omega) h; omega)
          · refine r_iload 5 d_Mod_wayOf_76 rfl ?_
            refine r_if_lt 98 d_Mod_wayOf_78 rfl (by omega) (fun h78 => ?_) (fun h78 => ?_)
            · refine r_iload 6 d_Mod_wayOf_98 rfl ?_
              refine r_istore 5 d_Mod_wayOf_100 (by decide) rfl ?_
              refine r_iinc 6 d_Mod_wayOf_102 rfl (by decide) rfl ?_
              refine r_goto 59 d_Mod_wayOf_105 rfl ?_
              refine ihp _ ?_
              first
                | (rcases hx with ⟨z1, z2⟩ | ⟨z1, z2, z3⟩
                   · refine Or.inl ⟨z1, fun q q0 q1 => ?_⟩
                     by_cases e : q = p
                     · rw [e]; omega
                     · exact z2 q q0 (by omega)
                   · refine Or.inr ⟨z1, z2, fun q q0 q1 h => ?_⟩
                     by_cases e : q = p
                     · rw [e]; first | omega | (rw [e] at h; omega)
                     · exact z3 q q0 (by omega) h)
                | (refine Or.inr ⟨⟨p0, p1⟩, by omega, fun q q0 q1 h => ?_⟩
                   by_cases e : q = p
                   · rw [e]; exact Int.le_refl _
                   · rcases hx with ⟨z1, z2⟩ | ⟨z1, z2, z3⟩
                     · have := z2 q q0 (by omega); omega
                     · have := z3 q q0 (by omega) h; omega)
            · have hx2 := hx.resolve_left (fun q => by omega)
              have hjx := j1 x hx2.1.1 hx2.1.2
              refine r_aload_n 0 d_Mod_wayOf_81 rfl rfl ?_
              refine r_getR 189 d_Mod_wayOf_82 fk_Mod_67 rfl rfl rfl (by decide) ?_
              refine r_iload 6 d_Mod_wayOf_85 rfl ?_
              refine r_iald 8 d_Mod_wayOf_87 rfl rfl (by omega) (by omega) ?_
              refine r_aload_n 0 d_Mod_wayOf_88 rfl rfl ?_
              refine r_getR 189 d_Mod_wayOf_89 fk_Mod_67 rfl rfl rfl (by decide) ?_
              refine r_iload 5 d_Mod_wayOf_92 rfl ?_
              refine r_iald 8 d_Mod_wayOf_94 rfl rfl (by omega) (by omega) ?_
              refine r_icmp_ge 102 d_Mod_wayOf_95 rfl (by omega) (by omega) (fun h95 => ?_) (fun h95 => ?_)
              · refine r_iinc 6 d_Mod_wayOf_102 rfl (by decide) rfl ?_
                refine r_goto 59 d_Mod_wayOf_105 rfl ?_
                refine ihp _ ?_
                first
                  | (rcases hx with ⟨z1, z2⟩ | ⟨z1, z2, z3⟩
                     · refine Or.inl ⟨z1, fun q q0 q1 => ?_⟩
                       by_cases e : q = p
                       · rw [e]; omega
                       · exact z2 q q0 (by omega)
                     · refine Or.inr ⟨z1, z2, fun q q0 q1 h => ?_⟩
                       by_cases e : q = p
                       · rw [e]; first | omega | (rw [e] at h; omega)
                       · exact z3 q q0 (by omega) h)
                  | (refine Or.inr ⟨⟨p0, p1⟩, by omega, fun q q0 q1 h => ?_⟩
                     by_cases e : q = p
                     · rw [e]; exact Int.le_refl _
                     · rcases hx with ⟨z1, z2⟩ | ⟨z1, z2, z3⟩
                       · have := z2 q q0 (by omega); omega
                       · have := z3 q q0 (by omega) h; omega)
              · refine r_iload 6 d_Mod_wayOf_98 rfl ?_
                refine r_istore 5 d_Mod_wayOf_100 (by decide) rfl ?_
                refine r_iinc 6 d_Mod_wayOf_102 rfl (by decide) rfl ?_
                refine r_goto 59 d_Mod_wayOf_105 rfl ?_
                refine ihp _ ?_
                first
                  | (rcases hx with ⟨z1, z2⟩ | ⟨z1, z2, z3⟩
                     · refine Or.inl ⟨z1, fun q q0 q1 => ?_⟩
                       by_cases e : q = p
                       · rw [e]; omega
                       · exact z2 q q0 (by omega)
                     · refine Or.inr ⟨z1, z2, fun q q0 q1 h => ?_⟩
                       by_cases e : q = p
                       · rw [e]; first | omega | (rw [e] at h; omega)
                       · exact z3 q q0 (by omega) h)
                  | (refine Or.inr ⟨⟨p0, p1⟩, by omega, fun q q0 q1 h => ?_⟩
                     by_cases e : q = p
                     · rw [e]; exact Int.le_refl _
                     · rcases hx with ⟨z1, z2⟩ | ⟨z1, z2, z3⟩
                       · have := z2 q q0 (by omega); omega
                       · have := z3 q q0 (by omega) h; omega)
      refine r_iload 4 d_Mod_wayOf_46 rfl ?_
      refine r_bipush d_Mod_wayOf_48 (by decide) ?_
      refine r_icmp_ge 200 d_Mod_wayOf_50 rfl (by omega) (by omega) (fun h50 => absurd h50 (by omega)) (fun h50 => ?_)
      refine r_iconst d_Mod_wayOf_53 ?_
      refine r_istore 5 d_Mod_wayOf_54 (by decide) rfl ?_
      refine r_iconst d_Mod_wayOf_56 ?_
      refine r_istore 6 d_Mod_wayOf_57 (by decide) rfl ?_
      exact LN 0 (by omega) (by omega) _ (Or.inl ⟨rfl, fun q q0 q1 => by omega⟩)
  have L0 : ∀ p, 0 ≤ p → p ≤ 8 → ∀ σ1 : sto, (∀ c i : Int, c ≠ 189 → c ≠ 190 → σ1 c i = σ c i) → (∀ q, 0 ≤ q → q < p → σ1 189 q = (if q = a then t else 1000000) ∧ σ1 190 q = 0) → Run M_Mod_wayOf (rxI 2 (fun r σ' => r = way D a b t ∧ ∀ c i : Int, c ≠ 189 → c ≠ 190 → σ' c i = σ c i)) (0, 0) 3 [vR 169, vI a, vI b, vI t, vI p, vU, vU, vU] [] (sg σ1) := by
    refine up_ind (b := 8) ?_ ?_
    · intro σ1 hF h
      refine r_iload 4 d_Mod_wayOf_3 rfl ?_
      refine r_bipush d_Mod_wayOf_5 (by decide) ?_
      refine r_icmp_ge 43 d_Mod_wayOf_7 rfl (by omega) (by omega) (fun h7 => ?_) (fun h7 => absurd h7 (by omega))
      refine r_iconst d_Mod_wayOf_43 ?_
      refine r_istore 4 d_Mod_wayOf_44 (by decide) rfl ?_
      refine LK 0 (by omega) (by omega) _ hF ⟨fun p p0 p1 => ?_, ?_, fun p q p0 p1 q0 q1 z => ?_, fun p q p0 p1 q0 q1 z => ?_, sm_no (fun p p0 p1 => (h p p0 p1).2)⟩
      · obtain ⟨z1, z2⟩ := h p p0 p1
        rw [z1, z2]
        refine ⟨Or.inl rfl, by split <;> omega, by split <;> omega, 0, ?_⟩
        exact Int.le_refl _
      · rw [(h a a0 a1).1, if_pos rfl]; exact Int.le_refl _
      · rw [(h p p0 p1).2] at z; omega
      · rw [(h p p0 p1).2] at z; omega
    · intro p p0 p1 ih σ1 hF h
      refine r_iload 4 d_Mod_wayOf_3 rfl ?_
      refine r_bipush d_Mod_wayOf_5 (by decide) ?_
      refine r_icmp_ge 43 d_Mod_wayOf_7 rfl (by omega) (by omega) (fun h7 => absurd h7 (by omega)) (fun h7 => ?_)
      refine r_aload_n 0 d_Mod_wayOf_10 rfl rfl ?_
      refine r_getR 189 d_Mod_wayOf_11 fk_Mod_67 rfl rfl rfl (by decide) ?_
      refine r_iload 4 d_Mod_wayOf_14 rfl ?_
      refine r_iload 4 d_Mod_wayOf_16 rfl ?_
      refine r_iload_n 1 d_Mod_wayOf_18 rfl rfl ?_
      refine r_icmp_ne 26 d_Mod_wayOf_19 rfl (by omega) (by omega) (fun h19 => ?_) (fun h19 => ?_)
      · refine r_ldc kc_Mod_112 d_Mod_wayOf_26 ?_
        refine r_iast 8 d_Mod_wayOf_28 rfl rfl (by omega) (by omega) ?_
        refine r_aload_n 0 d_Mod_wayOf_29 rfl rfl ?_
        refine r_getR 190 d_Mod_wayOf_30 fk_Mod_70 rfl rfl rfl (by decide) ?_
        refine r_iload 4 d_Mod_wayOf_33 rfl ?_
        refine r_iconst d_Mod_wayOf_35 ?_
        refine r_bast 8 d_Mod_wayOf_36 rfl rfl (by omega) (by omega) (by omega) ?_
        refine r_iinc 4 d_Mod_wayOf_37 rfl (by decide) rfl ?_
        refine r_goto 3 d_Mod_wayOf_40 rfl ?_
        refine ih _ (fun c i w1 w2 => by rw [wr_ne (by omega), wr_ne (by omega)]; exact hF c i w1 w2) (fun q q0 q1 => ?_)
        by_cases e : q = p
        · rw [e, wr_ne (by omega), wr_eq, wr_eq]
          exact ⟨by first | rw [if_pos (by omega)] | rw [if_neg (by omega)], rfl⟩
        · rw [wr_ne (by omega), wr_ne (by omega), wr_ne (by omega), wr_ne (by omega)]; exact h q q0 (by omega)
      · refine r_iload_n 3 d_Mod_wayOf_22 rfl rfl ?_
        refine r_goto 28 d_Mod_wayOf_23 rfl ?_
        refine r_iast 8 d_Mod_wayOf_28 rfl rfl (by omega) (by omega) ?_
        refine r_aload_n 0 d_Mod_wayOf_29 rfl rfl ?_
        refine r_getR 190 d_Mod_wayOf_30 fk_Mod_70 rfl rfl rfl (by decide) ?_
        refine r_iload 4 d_Mod_wayOf_33 rfl ?_
        refine r_iconst d_Mod_wayOf_35 ?_
        refine r_bast 8 d_Mod_wayOf_36 rfl rfl (by omega) (by omega) (by omega) ?_
        refine r_iinc 4 d_Mod_wayOf_37 rfl (by decide) rfl ?_
        refine r_goto 3 d_Mod_wayOf_40 rfl ?_
        refine ih _ (fun c i w1 w2 => by rw [wr_ne (by omega), wr_ne (by omega)]; exact hF c i w1 w2) (fun q q0 q1 => ?_)
        by_cases e : q = p
        · rw [e, wr_ne (by omega), wr_eq, wr_eq]
          exact ⟨by first | rw [if_pos (by omega)] | rw [if_neg (by omega)], rfl⟩
        · rw [wr_ne (by omega), wr_ne (by omega), wr_ne (by omega), wr_ne (by omega)]; exact h q q0 (by omega)
  refine ci_of [vR 169, vI a, vI b, vI t, vU, vU, vU, vU] fy_Mod_wayOf.1 rfl (Nat.le_of_ble_eq_true rfl) ?_
  refine r_iconst d_Mod_wayOf_0 ?_
  refine r_istore 4 d_Mod_wayOf_1 (by decide) rfl ?_
  exact L0 0 (by omega) (by omega) σ (fun _ _ _ _ => rfl) (fun q q0 q1 => by omega)
