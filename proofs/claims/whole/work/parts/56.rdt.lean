-- THE REFERENCE: the calls that change the data (walks written by wip/whole/gen_rdt.py)
theorem DR.st {σ σ' D D' : sto} {ns nv : Int} (h : DR σ D ns nv) (hF : ∀ c i : Int, (c = 169 ∧ (i = 13 ∨ i = 14) ∨ 171 ≤ c ∧ c ≤ 182) → σ' c i = σ c i) (hS : SR σ' D') (hD : ∀ k i, k ≠ 12 → D' k i = D k i) : DR σ' D' ns nv := by
  obtain ⟨h1, h2, h3, h4, h5, h6⟩ := h
  refine ⟨by rw [hF 169 13 (by omega)]; exact h1, by rw [hF 169 14 (by omega)]; exact h2, fun s s0 s1 => ?_, fun s s0 s1 => by rw [hF 176 s (by omega), hD 5 s (by omega)]; exact h4 s s0 s1, fun v v0 v1 => ?_, hS⟩
  · rw [hF 171 _ (by omega), hF 172 _ (by omega), hF 173 _ (by omega), hF 174 _ (by omega), hF 175 _ (by omega), hF 177 _ (by omega), hF 178 _ (by omega), hD 0 _ (by omega), hD 1 _ (by omega), hD 2 _ (by omega), hD 3 _ (by omega), hD 4 _ (by omega), hD 6 _ (by omega), hD 7 _ (by omega)]; exact h3 s s0 s1
  · rw [hF 179 _ (by omega), hF 180 _ (by omega), hF 181 _ (by omega), hF 182 _ (by omega), hD 8 _ (by omega), hD 9 _ (by omega), hD 10 _ (by omega), hD 11 _ (by omega)]; exact h5 v v0 v1
theorem DR.both {σ D : sto} {ns nv c k i v : Int} (h : DR σ D ns nv) (hck : (c = 173 ∧ k = 2) ∨ (c = 174 ∧ k = 3) ∨ (c = 178 ∧ k = 7) ∨ (c = 179 ∧ k = 8) ∨ (c = 180 ∧ k = 9) ∨ (c = 181 ∧ k = 10) ∨ (c = 182 ∧ k = 11)) : DR (wr σ c i v) (wr D k i v) ns nv := by
  obtain ⟨h1, h2, h3, h4, h5, h6⟩ := h
  refine ⟨by rw [wr_ne (by omega)]; exact h1, by rw [wr_ne (by omega)]; exact h2, fun s s0 s1 => ?_, fun s s0 s1 => ?_, fun u u0 u1 => ?_, ?_⟩
  · obtain ⟨a1, a2, a3, a4, a5, a6, a7⟩ := h3 s s0 s1
    exact ⟨wr_both a1 (by omega), wr_both a2 (by omega), wr_both a3 (by omega), wr_both a4 (by omega), wr_both a5 (by omega), wr_both a6 (by omega), wr_both a7 (by omega)⟩
  · rw [wr_ne (σ := D) (by omega), wr_ne (by omega)]; exact h4 s s0 s1
  · obtain ⟨a1, a2, a3, a4⟩ := h5 u u0 u1
    exact ⟨wr_both a1 (by omega), wr_both a2 (by omega), wr_both a3 (by omega), wr_both a4 (by omega)⟩
  · intro a b t a0 a1 b0 b1 t0 t1
    rw [wr_ne (by omega), tk_cg (D' := wr D k i v) (D := D) (fun i => wr_ne (by omega))]; exact h6 a b t a0 a1 b0 b1 t0 t1
theorem wr_cm {σ : sto} {c i v c' i' v' : Int} (h : c ≠ c') : wr (wr σ c i v) c' i' v' = wr (wr σ c' i' v') c i v := by
  funext a b
  by_cases e : a = c
  · rw [wr_ne (c := c') (by omega)]
    unfold wr
    by_cases e2 : b = i
    · rw [if_pos ⟨e, e2⟩, if_pos ⟨e, e2⟩]
    · rw [if_neg (fun q => e2 q.2), if_neg (fun q => e2 q.2), if_neg (by omega)]
  · rw [wr_ne (c := c) (c' := a) (by omega)]
    unfold wr
    by_cases e2 : a = c' ∧ b = i'
    · rw [if_pos e2, if_pos e2]
    · rw [if_neg e2, if_neg e2, if_neg (fun q => e q.1)]
theorem rin_data {σ σ1 D' : sto} {g : G} {ns' nv' a : Int} (hI : RI σ g) (hF : ∀ c i : Int, (c < 169 ∨ c = 183 ∨ c = 184 ∨ c = 188 ∨ c = 196 ∨ c = 169 ∧ (i = 33 ∨ i = 45)) → σ1 c i = σ c i) (hC : DR σ1 D' ns' nv') : QM (a, g.data D' ns' nv') σ a (wr σ1 169 20 0) := by
  obtain ⟨h0, h1, h2, h3, h4, h5, h6⟩ := hI
  refine ⟨rfl, ⟨h0.keep (fun c i q => by rw [wr_ne (by omega)]; exact hF c i (by omega)), hC.keep (fun c i q => wr_ne (by omega)), ⟨by rw [wr_eq]; rfl, (by show (0 : Int) ≤ 20; decide), fun j j0 j1 => (by have : j < 0 := j1; omega)⟩, by rw [wr_ne (by omega), hF 169 45 (by omega)]; exact h3, fun i i0 i1 => by rw [wr_ne (by omega), hF 196 i (by omega)]; exact h4 i i0 i1, by rw [wr_ne (by omega), hF 169 33 (by omega)]; exact h5, fun k k0 k1 => by rw [wr_ne (by omega), hF 188 k (by omega)]; exact h6 k k0 k1⟩, fun c i q => by rw [wr_ne (by omega)]; exact hF c i (by omega)⟩
theorem RI.back {σ σ1 : sto} {g : G} (hI : RI σ g) (hF : ∀ c i : Int, (c = 169 ∧ (i = 20 ∨ i = 33 ∨ i = 45) ∨ 183 ≤ c ∧ c ≤ 185 ∨ c = 188 ∨ c = 196) → σ1 c i = σ c i) (hC : DR σ1 g.D g.ns g.nv) : RI σ1 g := by
  obtain ⟨h0, h1, h2, h3, h4, h5, h6⟩ := hI
  exact ⟨h0.keep (fun c i q => hF c i (by omega)), hC, h2.keep (hF 169 20 (by omega)) (fun i => hF 185 i (by omega)), by rw [hF 169 45 (by omega)]; exact h3, fun i i0 i1 => by rw [hF 196 i (by omega)]; exact h4 i i0 i1, by rw [hF 169 33 (by omega)]; exact h5, fun k k0 k1 => by rw [hF 188 k (by omega)]; exact h6 k k0 k1⟩
theorem mt_isSpan {σ : sto} {p : Int} (hs : inR p) : CI M_Mod_isSpan 0 [vI p] σ (fun r σ' => (r = 1 ∧ spanOK p ∨ r = 0 ∧ ¬ (spanOK p)) ∧ σ' = σ) := by
  refine ci_of [vI p] fy_Mod_isSpan.1 rfl (Nat.le_of_ble_eq_true rfl) ?_
  refine r_iload_n 0 d_Mod_isSpan_0 rfl rfl ?_
  refine r_if_lt 43 d_Mod_isSpan_1 rfl (by omega) (fun h1 => ?_) (fun h1 => ?_)
  · refine r_iconst d_Mod_isSpan_43 ?_
    refine q_zret d_Mod_isSpan_44 rfl (by omega) ?_
    exact ⟨by omega, rfl⟩
  · refine r_iload_n 0 d_Mod_isSpan_4 rfl rfl ?_
    refine r_sipush d_Mod_isSpan_5 (by decide) ?_
    refine r_idiv d_Mod_isSpan_8 (by omega) (by omega) ?_
    refine r_sipush d_Mod_isSpan_9 (by decide) ?_
    refine r_icmp_ge 43 d_Mod_isSpan_12 rfl (by omega) (by omega) (fun h12 => ?_) (fun h12 => ?_)
    · refine r_iconst d_Mod_isSpan_43 ?_
      refine q_zret d_Mod_isSpan_44 rfl (by omega) ?_
      exact ⟨by omega, rfl⟩
    · refine r_iload_n 0 d_Mod_isSpan_15 rfl rfl ?_
      refine r_sipush d_Mod_isSpan_16 (by decide) ?_
      refine r_irem d_Mod_isSpan_19 (by omega) (by omega) ?_
      refine r_sipush d_Mod_isSpan_20 (by decide) ?_
      refine r_icmp_ge 43 d_Mod_isSpan_23 rfl (by omega) (by omega) (fun h23 => ?_) (fun h23 => ?_)
      · refine r_iconst d_Mod_isSpan_43 ?_
        refine q_zret d_Mod_isSpan_44 rfl (by omega) ?_
        exact ⟨by omega, rfl⟩
      · refine r_iload_n 0 d_Mod_isSpan_26 rfl rfl ?_
        refine r_sipush d_Mod_isSpan_27 (by decide) ?_
        refine r_idiv d_Mod_isSpan_30 (by omega) (by omega) ?_
        refine r_iload_n 0 d_Mod_isSpan_31 rfl rfl ?_
        refine r_sipush d_Mod_isSpan_32 (by decide) ?_
        refine r_irem d_Mod_isSpan_35 (by omega) (by omega) ?_
        refine r_icmp_gt 43 d_Mod_isSpan_36 rfl (by omega) (by omega) (fun h36 => ?_) (fun h36 => ?_)
        · refine r_iconst d_Mod_isSpan_43 ?_
          refine q_zret d_Mod_isSpan_44 rfl (by omega) ?_
          exact ⟨by omega, rfl⟩
        · refine r_iconst d_Mod_isSpan_39 ?_
          refine r_goto 44 d_Mod_isSpan_40 rfl ?_
          refine q_zret d_Mod_isSpan_44 rfl (by omega) ?_
          exact ⟨by omega, rfl⟩
theorem mt_tells {σ : sto} {g : G} {a b p q m : Int} {F : Int → Int} (hI : RI σ g) (hk : g.ok) (a0 : 0 ≤ a) (a1 : a < 8) (b0 : 0 ≤ b) (b1 : b < 8) (hab : a ≠ b) (p0 : 0 ≤ p) (hpq : p ≤ q) (q1 : q < 8) (hF : ∀ h, 0 ≤ h → h < 8 → F h = if h < p ∨ q < h then tk g.D a b h else m) (hO : DOK (dST g.D a b F) g.ns g.nv) : CI M_Mod_tells 8 [vR 169, vI a, vI b, vI p, vI q, vI m] σ (fun r σ' => (r = 1 ∧ AF (dST g.D a b F) g.nv g.P ∧ RI σ' (g.data (dST g.D a b F) g.ns g.nv) ∨ r = 0 ∧ ¬ AF (dST g.D a b F) g.nv g.P ∧ RI σ' g) ∧ MF σ σ') := by
  obtain ⟨hQ, hE⟩ := id hI
  obtain ⟨hC, hU, h45, hrow, h33, hrf⟩ := id hE
  obtain ⟨k1, k2, k3, k4, k5, k6⟩ := id hk
  have hn := k1.1
  have hRV := k2.rv hn.1 hn.2.1
  have hsy := (k1.2.2.2.2 a b a0 a1 b0 b1).1
  have hS0 : SR σ g.D := hC.2.2.2.2.2
  have L2 : ¬ AF (dST g.D a b F) g.nv g.P → ∀ k, 0 ≤ k → k ≤ 8 → ∀ σ1 : sto, (∀ x y h : Int, 0 ≤ x → x < 8 → 0 ≤ y → y < 8 → 0 ≤ h → h < 8 → σ1 170 (64 * h + 8 * x + y) = if ((x = a ∧ y = b) ∨ (x = b ∧ y = a)) ∧ k ≤ h then F h else tk g.D x y h) → (∀ j, 0 ≤ j → j < 8 → σ1 191 j = tk g.D a b j) → (∀ c i : Int, (c < 169 ∨ c = 169 ∧ (i < 29 ∨ 32 < i) ∨ 171 ≤ c ∧ c ≤ 188 ∨ c = 196) → σ1 c i = σ c i) → Run M_Mod_tells (rxI 8 (fun r σ' => (r = 1 ∧ AF (dST g.D a b F) g.nv g.P ∧ RI σ' (g.data (dST g.D a b F) g.ns g.nv) ∨ r = 0 ∧ ¬ AF (dST g.D a b F) g.nv g.P ∧ RI σ' g) ∧ MF σ σ')) (0, 0) 96 [vR 169, vI a, vI b, vI p, vI q, vI m, vI k] [] (sg σ1) := by
    intro hna
    refine up_ind (b := 8) ?_ ?_
    · intro σ1 g1 g2 g3
      refine r_iload 6 d_Mod_tells_96 rfl ?_
      refine r_bipush d_Mod_tells_98 (by decide) ?_
      refine r_icmp_ge 147 d_Mod_tells_100 rfl (by omega) (by omega) (fun h100 => ?_) (fun h100 => absurd h100 (by omega))
      refine r_iconst d_Mod_tells_147 ?_
      refine q_zret d_Mod_tells_148 rfl (by omega) ?_
      have hSR : SR σ1 g.D := fun x y h x0 x1 y0 y1 h0 h1 => by rw [g1 x y h x0 x1 y0 y1 h0 h1, if_neg (by omega)]
      exact ⟨Or.inr ⟨rfl, hna, hI.back (fun c i z => g3 c i (by omega)) (hC.st (fun c i z => g3 c i (by omega)) hSR (fun _ _ _ => rfl))⟩, fun c i z => g3 c i (by omega)⟩
    · intro k k0 kk ih σ1 g1 g2 g3
      have e191 := g2 k k0 kk
      refine r_iload 6 d_Mod_tells_96 rfl ?_
      refine r_bipush d_Mod_tells_98 (by decide) ?_
      refine r_icmp_ge 147 d_Mod_tells_100 rfl (by omega) (by omega) (fun h100 => absurd h100 (by omega)) (fun h100 => ?_)
      refine r_aload_n 0 d_Mod_tells_103 rfl rfl ?_
      refine r_getR 170 d_Mod_tells_104 fk_Mod_7 rfl rfl rfl (by decide) ?_
      refine r_iload_n 1 d_Mod_tells_107 rfl rfl ?_
      refine r_iload_n 2 d_Mod_tells_108 rfl rfl ?_
      refine r_iload 6 d_Mod_tells_109 rfl ?_
      refine r_cSP d_Mod_tells_111 lk_Mod_108 sc_Mod_at mt_at rfl rfl ⟨Nat.le_of_ble_eq_true rfl, Nat.le_of_ble_eq_true rfl⟩ ⟨Nat.zero_le _, Nat.zero_le _⟩ (Nat.le_of_ble_eq_true rfl) ?_
      refine r_aload_n 0 d_Mod_tells_114 rfl rfl ?_
      refine r_getR 191 d_Mod_tells_115 fk_Mod_74 rfl rfl rfl (by decide) ?_
      refine r_iload 6 d_Mod_tells_118 rfl ?_
      refine r_iald 8 d_Mod_tells_120 rfl rfl (by omega) (by omega) ?_
      rw [e191]
      refine r_iast 512 d_Mod_tells_121 rfl rfl (by omega) (by omega) ?_
      refine r_aload_n 0 d_Mod_tells_122 rfl rfl ?_
      refine r_getR 170 d_Mod_tells_123 fk_Mod_7 rfl rfl rfl (by decide) ?_
      refine r_iload_n 2 d_Mod_tells_126 rfl rfl ?_
      refine r_iload_n 1 d_Mod_tells_127 rfl rfl ?_
      refine r_iload 6 d_Mod_tells_128 rfl ?_
      refine r_cSP d_Mod_tells_130 lk_Mod_108 sc_Mod_at mt_at rfl rfl ⟨Nat.le_of_ble_eq_true rfl, Nat.le_of_ble_eq_true rfl⟩ ⟨Nat.zero_le _, Nat.zero_le _⟩ (Nat.le_of_ble_eq_true rfl) ?_
      refine r_aload_n 0 d_Mod_tells_133 rfl rfl ?_
      refine r_getR 191 d_Mod_tells_134 fk_Mod_74 rfl rfl rfl (by decide) ?_
      refine r_iload 6 d_Mod_tells_137 rfl ?_
      refine r_iald 8 d_Mod_tells_139 rfl rfl (by omega) (by omega) ?_
      rw [show wr σ1 170 (64 * k + 8 * a + b) (tk g.D a b k) 191 k = tk g.D a b k by rw [wr_ne (by omega)]; exact e191]
      refine r_iast 512 d_Mod_tells_140 rfl rfl (by omega) (by omega) ?_
      refine r_iinc 6 d_Mod_tells_141 rfl (by decide) rfl ?_
      refine r_goto 96 d_Mod_tells_144 rfl ?_
      refine ih _ (fun x y h x0 x1 y0 y1 h0 h1 => ?_) (fun j j0 j1 => by rw [wr_ne (by omega), wr_ne (by omega)]; exact g2 j j0 j1) (fun c i z => by rw [wr_ne (by omega), wr_ne (by omega)]; exact g3 c i z)
      by_cases e : h = k ∧ x = b ∧ y = a
      · rw [e.1, e.2.1, e.2.2, wr_eq, if_neg (by omega)]; exact hsy k k0 kk
      · rw [wr_ne (by omega)]
        by_cases e2 : h = k ∧ x = a ∧ y = b
        · rw [e2.1, e2.2.1, e2.2.2, wr_eq, if_neg (by omega)]
        · rw [wr_ne (by omega), g1 x y h x0 x1 y0 y1 h0 h1]
          by_cases e3 : ((x = a ∧ y = b) ∨ (x = b ∧ y = a)) ∧ k ≤ h
          · rw [if_pos e3, if_pos (by omega)]
          · rw [if_neg e3, if_neg (by omega)]
  have L1 : ∀ k, 0 ≤ k → k ≤ 8 → ∀ σ1 : sto, (∀ x y h : Int, 0 ≤ x → x < 8 → 0 ≤ y → y < 8 → 0 ≤ h → h < 8 → σ1 170 (64 * h + 8 * x + y) = if ((x = a ∧ y = b) ∨ (x = b ∧ y = a)) ∧ h < k then F h else tk g.D x y h) → (∀ j, 0 ≤ j → j < k → σ1 191 j = tk g.D a b j) → (∀ c i : Int, (c < 169 ∨ c = 169 ∧ (i < 29 ∨ 32 < i) ∨ 171 ≤ c ∧ c ≤ 188 ∨ c = 196) → σ1 c i = σ c i) → Run M_Mod_tells (rxI 8 (fun r σ' => (r = 1 ∧ AF (dST g.D a b F) g.nv g.P ∧ RI σ' (g.data (dST g.D a b F) g.ns g.nv) ∨ r = 0 ∧ ¬ AF (dST g.D a b F) g.nv g.P ∧ RI σ' g) ∧ MF σ σ')) (0, 0) 3 [vR 169, vI a, vI b, vI p, vI q, vI m, vI k] [] (sg σ1) := by
    refine up_ind (b := 8) ?_ ?_
    · intro σ1 g1 g2 g3
      have hSR : SR σ1 (dST g.D a b F) := fun x y h x0 x1 y0 y1 h0 h1 => by
        rw [g1 x y h x0 x1 y0 y1 h0 h1, tk_dST a0 a1 b0 b1 x0 x1 y0 y1 h0 h1]
        by_cases e : ((x = a ∧ y = b) ∨ (x = b ∧ y = a))
        · rw [if_pos ⟨e, h1⟩, if_pos e]
        · rw [if_neg (fun z => e z.1), if_neg e]
      have hC1 : DR σ1 (dST g.D a b F) g.ns g.nv := hC.st (fun c i z => g3 c i (by omega)) hSR (fun k i z => dST_ne z)
      have hQ1 : RA σ1 g.P := hQ.keep (fun c i z => g3 c i (by omega))
      refine r_iload 6 d_Mod_tells_3 rfl ?_
      refine r_bipush d_Mod_tells_5 (by decide) ?_
      refine r_icmp_ge 79 d_Mod_tells_7 rfl (by omega) (by omega) (fun h7 => ?_) (fun h7 => absurd h7 (by omega))
      refine r_aload_n 0 d_Mod_tells_79 rfl rfl ?_
      refine r_cVI 8 d_Mod_tells_80 lk_Mod_133 vc_Mod_allFit (mt_allFit hC1 hO hQ1 hRV) rfl rfl rfl rfl ⟨Nat.le_of_ble_eq_true rfl, Nat.le_of_ble_eq_true rfl⟩ ⟨Nat.zero_le _, Nat.zero_le _⟩ (Nat.le_of_ble_eq_true rfl) (fun r80 s80 q80 => ?_)
      obtain ⟨qa, qR⟩ := q80
      refine r_if_eq 93 d_Mod_tells_83 rfl (by omega) (fun h83 => ?_) (fun h83 => ?_)
      · refine r_iconst d_Mod_tells_93 ?_
        refine r_istore 6 d_Mod_tells_94 (by decide) rfl ?_
        have ena := (qa.resolve_left (fun z => by omega)).2
        refine L2 ena 0 (by omega) (by omega) _ (fun x y h x0 x1 y0 y1 h0 h1 => ?_) (fun j j0 j1 => by rw [qR 191 j (by omega) (by omega) (by omega) (by omega)]; exact g2 j j0 j1) (fun c i z => by rw [qR c i (by omega) (by omega) (by omega) (by omega)]; exact g3 c i z)
        rw [qR 170 _ (by omega) (by omega) (by omega) (by omega), g1 x y h x0 x1 y0 y1 h0 h1]
        by_cases e : ((x = a ∧ y = b) ∨ (x = b ∧ y = a))
        · rw [if_pos ⟨e, h1⟩, if_pos ⟨e, h0⟩]
        · rw [if_neg (fun z => e z.1), if_neg (fun z => e z.1)]
      · refine r_aload_n 0 d_Mod_tells_86 rfl rfl ?_
        refine r_iconst d_Mod_tells_87 ?_
        refine r_putI 20 d_Mod_tells_88 fk_Mod_137 rfl rfl rfl (Or.inl rfl) ?_
        refine r_iconst d_Mod_tells_91 ?_
        refine q_zret d_Mod_tells_92 rfl (by omega) ?_
        have ea := (qa.resolve_right (fun z => h83 z.1)).2
        obtain ⟨r1, r2, r3⟩ := rin_data (a := 1) hI (fun c i z => by rw [qR c i (by omega) (by omega) (by omega) (by omega)]; exact g3 c i (by omega)) (qR.dr hC1)
        exact ⟨Or.inl ⟨rfl, ea, r2⟩, r3⟩
    · intro k k0 kk ih σ1 g1 g2 g3
      have e170 : σ1 170 (64 * k + 8 * a + b) = tk g.D a b k := by rw [g1 a b k a0 a1 b0 b1 k0 kk, if_neg (by omega)]
      have hFk := hF k k0 kk
      have skip : (k < p ∨ q < k) → Run M_Mod_tells (rxI 8 (fun r σ' => (r = 1 ∧ AF (dST g.D a b F) g.nv g.P ∧ RI σ' (g.data (dST g.D a b F) g.ns g.nv) ∨ r = 0 ∧ ¬ AF (dST g.D a b F) g.nv g.P ∧ RI σ' g) ∧ MF σ σ')) (0, 0) 73 [vR 169, vI a, vI b, vI p, vI q, vI m, vI k] [] (sg (wr σ1 191 k (tk g.D a b k))) := by
        intro hsk
        rw [if_pos hsk] at hFk
        refine r_iinc 6 d_Mod_tells_73 rfl (by decide) rfl ?_
        refine r_goto 3 d_Mod_tells_76 rfl ?_
        refine ih _ (fun x y h x0 x1 y0 y1 h0 h1 => ?_) (fun j j0 j1 => ?_) (fun c i z => by rw [wr_ne (by omega)]; exact g3 c i z)
        · rw [wr_ne (by omega), g1 x y h x0 x1 y0 y1 h0 h1]
          by_cases e : h = k
          · rw [if_neg (by omega), e]
            by_cases e2 : ((x = a ∧ y = b) ∨ (x = b ∧ y = a))
            · rw [if_pos ⟨e2, by omega⟩, hFk]; rcases e2 with z | z
              · rw [z.1, z.2]
              · rw [z.1, z.2]; exact (hsy k k0 kk).symm
            · rw [if_neg (fun z => e2 z.1)]
          · by_cases e3 : ((x = a ∧ y = b) ∨ (x = b ∧ y = a)) ∧ h < k
            · rw [if_pos e3, if_pos (by omega)]
            · rw [if_neg e3, if_neg (by omega)]
        · by_cases e : j = k
          · rw [e, wr_eq]
          · rw [wr_ne (by omega)]; exact g2 j j0 (by omega)
      refine r_iload 6 d_Mod_tells_3 rfl ?_
      refine r_bipush d_Mod_tells_5 (by decide) ?_
      refine r_icmp_ge 79 d_Mod_tells_7 rfl (by omega) (by omega) (fun h7 => absurd h7 (by omega)) (fun h7 => ?_)
      refine r_aload_n 0 d_Mod_tells_10 rfl rfl ?_
      refine r_getR 191 d_Mod_tells_11 fk_Mod_74 rfl rfl rfl (by decide) ?_
      refine r_iload 6 d_Mod_tells_14 rfl ?_
      refine r_aload_n 0 d_Mod_tells_16 rfl rfl ?_
      refine r_getR 170 d_Mod_tells_17 fk_Mod_7 rfl rfl rfl (by decide) ?_
      refine r_iload_n 1 d_Mod_tells_20 rfl rfl ?_
      refine r_iload_n 2 d_Mod_tells_21 rfl rfl ?_
      refine r_iload 6 d_Mod_tells_22 rfl ?_
      refine r_cSP d_Mod_tells_24 lk_Mod_108 sc_Mod_at mt_at rfl rfl ⟨Nat.le_of_ble_eq_true rfl, Nat.le_of_ble_eq_true rfl⟩ ⟨Nat.zero_le _, Nat.zero_le _⟩ (Nat.le_of_ble_eq_true rfl) ?_
      refine r_iald 512 d_Mod_tells_27 rfl rfl (by omega) (by omega) ?_
      rw [e170]
      refine r_iast 8 d_Mod_tells_28 rfl rfl (by omega) (by omega) ?_
      refine r_iload 6 d_Mod_tells_29 rfl ?_
      refine r_iload_n 3 d_Mod_tells_31 rfl rfl ?_
      refine r_icmp_lt 73 d_Mod_tells_32 rfl (by omega) (by omega) (fun h32 => ?_) (fun h32 => ?_)
      · first
          | (rw [if_neg (by omega)] at hFk
             refine r_iinc 6 d_Mod_tells_73 rfl (by decide) rfl ?_
             refine r_goto 3 d_Mod_tells_76 rfl ?_
             refine ih _ (fun x y h x0 x1 y0 y1 h0 h1 => ?_) (fun j j0 j1 => ?_) (fun c i z => by rw [wr_ne (by omega), wr_ne (by omega), wr_ne (by omega)]; exact g3 c i z)
             · by_cases e : h = k ∧ x = b ∧ y = a
               · rw [e.1, e.2.1, e.2.2, wr_eq, if_pos (by omega), hFk]
               · rw [wr_ne (by omega)]
                 by_cases e2 : h = k ∧ x = a ∧ y = b
                 · rw [e2.1, e2.2.1, e2.2.2, wr_eq, if_pos (by omega), hFk]
                 · rw [wr_ne (by omega), wr_ne (by omega), g1 x y h x0 x1 y0 y1 h0 h1]
                   by_cases e3 : ((x = a ∧ y = b) ∨ (x = b ∧ y = a)) ∧ h < k
                   · rw [if_pos e3, if_pos (by omega)]
                   · rw [if_neg e3, if_neg (by omega)]
             · rw [wr_ne (by omega), wr_ne (by omega)]
               by_cases e : j = k
               · rw [e, wr_eq]
               · rw [wr_ne (by omega)]; exact g2 j j0 (by omega))
          | exact skip (by omega)
      · refine r_iload 6 d_Mod_tells_35 rfl ?_
        refine r_iload 4 d_Mod_tells_37 rfl ?_
        refine r_icmp_le 45 d_Mod_tells_39 rfl (by omega) (by omega) (fun h39 => ?_) (fun h39 => ?_)
        · refine r_aload_n 0 d_Mod_tells_45 rfl rfl ?_
          refine r_getR 170 d_Mod_tells_46 fk_Mod_7 rfl rfl rfl (by decide) ?_
          refine r_iload_n 1 d_Mod_tells_49 rfl rfl ?_
          refine r_iload_n 2 d_Mod_tells_50 rfl rfl ?_
          refine r_iload 6 d_Mod_tells_51 rfl ?_
          refine r_cSP d_Mod_tells_53 lk_Mod_108 sc_Mod_at mt_at rfl rfl ⟨Nat.le_of_ble_eq_true rfl, Nat.le_of_ble_eq_true rfl⟩ ⟨Nat.zero_le _, Nat.zero_le _⟩ (Nat.le_of_ble_eq_true rfl) ?_
          refine r_iload 5 d_Mod_tells_56 rfl ?_
          refine r_iast 512 d_Mod_tells_58 rfl rfl (by omega) (by omega) ?_
          refine r_aload_n 0 d_Mod_tells_59 rfl rfl ?_
          refine r_getR 170 d_Mod_tells_60 fk_Mod_7 rfl rfl rfl (by decide) ?_
          refine r_iload_n 2 d_Mod_tells_63 rfl rfl ?_
          refine r_iload_n 1 d_Mod_tells_64 rfl rfl ?_
          refine r_iload 6 d_Mod_tells_65 rfl ?_
          refine r_cSP d_Mod_tells_67 lk_Mod_108 sc_Mod_at mt_at rfl rfl ⟨Nat.le_of_ble_eq_true rfl, Nat.le_of_ble_eq_true rfl⟩ ⟨Nat.zero_le _, Nat.zero_le _⟩ (Nat.le_of_ble_eq_true rfl) ?_
          refine r_iload 5 d_Mod_tells_70 rfl ?_
          refine r_iast 512 d_Mod_tells_72 rfl rfl (by omega) (by omega) ?_
          first
            | (rw [if_neg (by omega)] at hFk
               refine r_iinc 6 d_Mod_tells_73 rfl (by decide) rfl ?_
               refine r_goto 3 d_Mod_tells_76 rfl ?_
               refine ih _ (fun x y h x0 x1 y0 y1 h0 h1 => ?_) (fun j j0 j1 => ?_) (fun c i z => by rw [wr_ne (by omega), wr_ne (by omega), wr_ne (by omega)]; exact g3 c i z)
               · by_cases e : h = k ∧ x = b ∧ y = a
                 · rw [e.1, e.2.1, e.2.2, wr_eq, if_pos (by omega), hFk]
                 · rw [wr_ne (by omega)]
                   by_cases e2 : h = k ∧ x = a ∧ y = b
                   · rw [e2.1, e2.2.1, e2.2.2, wr_eq, if_pos (by omega), hFk]
                   · rw [wr_ne (by omega), wr_ne (by omega), g1 x y h x0 x1 y0 y1 h0 h1]
                     by_cases e3 : ((x = a ∧ y = b) ∨ (x = b ∧ y = a)) ∧ h < k
                     · rw [if_pos e3, if_pos (by omega)]
                     · rw [if_neg e3, if_neg (by omega)]
               · rw [wr_ne (by omega), wr_ne (by omega)]
                 by_cases e : j = k
                 · rw [e, wr_eq]
                 · rw [wr_ne (by omega)]; exact g2 j j0 (by omega))
            | exact skip (by omega)
        · refine r_goto 73 d_Mod_tells_42 rfl ?_
          first
            | (rw [if_neg (by omega)] at hFk
               refine r_iinc 6 d_Mod_tells_73 rfl (by decide) rfl ?_
               refine r_goto 3 d_Mod_tells_76 rfl ?_
               refine ih _ (fun x y h x0 x1 y0 y1 h0 h1 => ?_) (fun j j0 j1 => ?_) (fun c i z => by rw [wr_ne (by omega), wr_ne (by omega), wr_ne (by omega)]; exact g3 c i z)
               · by_cases e : h = k ∧ x = b ∧ y = a
                 · rw [e.1, e.2.1, e.2.2, wr_eq, if_pos (by omega), hFk]
                 · rw [wr_ne (by omega)]
                   by_cases e2 : h = k ∧ x = a ∧ y = b
                   · rw [e2.1, e2.2.1, e2.2.2, wr_eq, if_pos (by omega), hFk]
                   · rw [wr_ne (by omega), wr_ne (by omega), g1 x y h x0 x1 y0 y1 h0 h1]
                     by_cases e3 : ((x = a ∧ y = b) ∨ (x = b ∧ y = a)) ∧ h < k
                     · rw [if_pos e3, if_pos (by omega)]
                     · rw [if_neg e3, if_neg (by omega)]
               · rw [wr_ne (by omega), wr_ne (by omega)]
                 by_cases e : j = k
                 · rw [e, wr_eq]
                 · rw [wr_ne (by omega)]; exact g2 j j0 (by omega))
            | exact skip (by omega)
  refine ci_of [vR 169, vI a, vI b, vI p, vI q, vI m, vU] fy_Mod_tells.1 rfl (Nat.le_of_ble_eq_true rfl) ?_
  refine r_iconst d_Mod_tells_0 ?_
  refine r_istore 6 d_Mod_tells_1 (by decide) rfl ?_
  exact L1 0 (by omega) (by omega) σ (fun x y h x0 x1 y0 y1 h0 h1 => by rw [if_neg (by omega)]; exact hS0 x y h x0 x1 y0 y1 h0 h1) (fun j j0 j1 => by omega) (fun _ _ _ => rfl)
theorem cr_street {σ : sto} {g : G} {a b m : Int} (hI : RI σ g) (hk : g.ok) (h_a : inR a) (h_b : inR b) (h_m : inR m) : CI M_Mod_street 14 [vR 169, vI a, vI b, vI m] σ (QM (sp_street g a b m) σ) := by
  obtain ⟨hQ, hE⟩ := id hI
  obtain ⟨hC, hU, h45, hrow, h33, hrf⟩ := id hE
  obtain ⟨k1, k2, k3, k4, k5, k6⟩ := id hk
  have hn := k1.1
  have hRV := k2.rv hn.1 hn.2.1
  refine ci_of [vR 169, vI a, vI b, vI m, vU] fy_Mod_street.1 rfl (Nat.le_of_ble_eq_true rfl) ?_
  refine r_iload_n 1 d_Mod_street_0 rfl rfl ?_
  refine r_cSI d_Mod_street_1 lk_Mod_116 sc_Mod_isPlace (mt_isPlace (by omega)) rfl rfl ⟨Nat.le_of_ble_eq_true rfl, Nat.le_of_ble_eq_true rfl⟩ ⟨Nat.zero_le _, Nat.zero_le _⟩ (Nat.le_of_ble_eq_true rfl) (fun r1 s1 q1 => ?_)
  obtain ⟨q1, hs1⟩ := q1
  have hs1 := hs1.symm
  subst hs1
  refine r_if_eq 14 d_Mod_street_4 rfl (by omega) (fun h4 => ?_) (fun h4 => ?_)
  · refine r_aload_n 0 d_Mod_street_14 rfl rfl ?_
    refine r_bipush d_Mod_street_15 (by decide) ?_
    refine r_cVI 8 d_Mod_street_17 lk_Mod_126 vc_Mod_no (mt_no (by omega)) rfl rfl rfl rfl ⟨Nat.le_of_ble_eq_true rfl, Nat.le_of_ble_eq_true rfl⟩ ⟨Nat.zero_le _, Nat.zero_le _⟩ (Nat.le_of_ble_eq_true rfl) (fun r17 s17 q17 => ?_)
    have q := q17
    refine q_iret d_Mod_street_20 rfl ?_
    exact qn_no hI MF.rf q (by unfold sp_street; (repeat (first | rw [if_pos (by omega)] | rw [if_neg (by omega)])); (try rfl))
  · refine r_iload_n 2 d_Mod_street_7 rfl rfl ?_
    refine r_cSI d_Mod_street_8 lk_Mod_116 sc_Mod_isPlace (mt_isPlace (by omega)) rfl rfl ⟨Nat.le_of_ble_eq_true rfl, Nat.le_of_ble_eq_true rfl⟩ ⟨Nat.zero_le _, Nat.zero_le _⟩ (Nat.le_of_ble_eq_true rfl) (fun r8 s8 q8 => ?_)
    obtain ⟨q8, hs8⟩ := q8
    have hs8 := hs8.symm
    subst hs8
    refine r_if_ne 21 d_Mod_street_11 rfl (by omega) (fun h11 => ?_) (fun h11 => ?_)
    · have hso := k1.2.2.2.2 a b (by omega) (by omega) (by omega) (by omega)
      have hso2 := hso.2.1
      have hs0 := fun h h0 h1 => hC.2.2.2.2.2 a b h (by omega) (by omega) (by omega) (by omega) h0 h1
      have hti : ∀ h, 0 ≤ h → h < 8 → 0 ≤ tk g.D a b h ∧ tk g.D a b h ≤ 99 := fun h h0 h1 => by rcases hso2 with z | z <;> have := z h h0 h1 <;> omega
      have ht0 := hti 0 (by omega) (by omega)
      have e00 := hs0 0 (by omega) (by omega)
      refine r_iload_n 3 d_Mod_street_21 rfl rfl ?_
      refine r_i2l d_Mod_street_22 (by omega) ?_
      refine r_lconst (z := 0) d_Mod_street_23 (by decide) ?_
      refine r_ldc2 kc_Mod_140 d_Mod_street_24 ?_
      refine r_cSI d_Mod_street_27 lk_Mod_122 sc_Mod_isIn (mt_isIn (by omega) (by omega) (by omega)) rfl rfl ⟨Nat.le_of_ble_eq_true rfl, Nat.le_of_ble_eq_true rfl⟩ ⟨Nat.zero_le _, Nat.zero_le _⟩ (Nat.le_of_ble_eq_true rfl) (fun r27 s27 q27 => ?_)
      obtain ⟨q27, hs27⟩ := q27
      have hs27 := hs27.symm
      subst hs27
      refine r_if_eq 38 d_Mod_street_30 rfl (by omega) (fun h30 => ?_) (fun h30 => ?_)
      · refine r_aload_n 0 d_Mod_street_38 rfl rfl ?_
        refine r_bipush d_Mod_street_39 (by decide) ?_
        refine r_cVI 8 d_Mod_street_41 lk_Mod_126 vc_Mod_no (mt_no (by omega)) rfl rfl rfl rfl ⟨Nat.le_of_ble_eq_true rfl, Nat.le_of_ble_eq_true rfl⟩ ⟨Nat.zero_le _, Nat.zero_le _⟩ (Nat.le_of_ble_eq_true rfl) (fun r41 s41 q41 => ?_)
        have q := q41
        refine q_iret d_Mod_street_44 rfl ?_
        exact qn_no hI MF.rf q (by unfold sp_street; (repeat (first | rw [if_pos (by omega)] | rw [if_neg (by omega)])); (try rfl))
      · refine r_iload_n 1 d_Mod_street_33 rfl rfl ?_
        refine r_iload_n 2 d_Mod_street_34 rfl rfl ?_
        refine r_icmp_ne 45 d_Mod_street_35 rfl (by omega) (by omega) (fun h35 => ?_) (fun h35 => ?_)
        · have hO1 : DOK (dST g.D a b (fun _ => m)) g.ns g.nv := k1.st (SOK_dST k1.2.2.2.2 (by omega) (by omega) (by omega) (by omega) h35 (by by_cases z : m = 0; (exact Or.inl (fun _ _ _ => z)); (exact Or.inr (fun _ _ _ => by omega)))) (fun k i z => dST_ne z)
          refine r_aload_n 0 d_Mod_street_45 rfl rfl ?_
          refine r_getR 170 d_Mod_street_46 fk_Mod_7 rfl rfl rfl (by decide) ?_
          refine r_iload_n 1 d_Mod_street_49 rfl rfl ?_
          refine r_iload_n 2 d_Mod_street_50 rfl rfl ?_
          refine r_iconst d_Mod_street_51 ?_
          refine r_cSP d_Mod_street_52 lk_Mod_108 sc_Mod_at mt_at rfl rfl ⟨Nat.le_of_ble_eq_true rfl, Nat.le_of_ble_eq_true rfl⟩ ⟨Nat.zero_le _, Nat.zero_le _⟩ (Nat.le_of_ble_eq_true rfl) ?_
          refine r_iald 512 d_Mod_street_55 rfl rfl (by omega) (by omega) ?_
          rw [e00]
          refine r_if_le 63 d_Mod_street_56 rfl (by omega) (fun h56 => ?_) (fun h56 => ?_)
          · refine r_iconst d_Mod_street_63 ?_
            refine r_istore 4 d_Mod_street_64 (by decide) rfl ?_
            refine r_aload_n 0 d_Mod_street_66 rfl rfl ?_
            refine r_iload_n 1 d_Mod_street_67 rfl rfl ?_
            refine r_iload_n 2 d_Mod_street_68 rfl rfl ?_
            refine r_iconst d_Mod_street_69 ?_
            refine r_bipush d_Mod_street_70 (by decide) ?_
            refine r_iload_n 3 d_Mod_street_72 rfl rfl ?_
            refine r_cVI 8 d_Mod_street_73 lk_Mod_142 vc_Mod_tells (mt_tells (F := (fun _ => m)) hI hk (by omega) (by omega) (by omega) (by omega) (by omega) (by omega) (by omega) (by omega) (fun h h0 h1 => by rw [if_neg (by omega)]) hO1) rfl rfl rfl rfl ⟨Nat.le_of_ble_eq_true rfl, Nat.le_of_ble_eq_true rfl⟩ ⟨Nat.zero_le _, Nat.zero_le _⟩ (Nat.le_of_ble_eq_true rfl) (fun r73 s73 q73 => ?_)
            obtain ⟨qa, hF1⟩ := q73
            refine r_if_eq 84 d_Mod_street_76 rfl (by omega) (fun h76 => ?_) (fun h76 => ?_)
            · refine r_aload_n 0 d_Mod_street_84 rfl rfl ?_
              refine r_bipush d_Mod_street_85 (by decide) ?_
              refine r_cVI 8 d_Mod_street_87 lk_Mod_126 vc_Mod_no (mt_no (by omega)) rfl rfl rfl rfl ⟨Nat.le_of_ble_eq_true rfl, Nat.le_of_ble_eq_true rfl⟩ ⟨Nat.zero_le _, Nat.zero_le _⟩ (Nat.le_of_ble_eq_true rfl) (fun r87 s87 q87 => ?_)
              have q := q87
              refine q_iret d_Mod_street_90 rfl ?_
              first
                | (have ea := (qa.resolve_left (fun z => by omega)).2.1; have hI1 := (qa.resolve_left (fun z => by omega)).2.2; exact qn_no hI1 hF1 q (by unfold sp_street; (repeat (first | rw [if_pos (by omega)] | rw [if_neg (by omega)])); (try rfl); unfold renew; rw [ifp_f ea]))
                | (have ea := (qa.resolve_right (fun z => h76 z.1)).2.1; have hI1 := (qa.resolve_right (fun z => h76 z.1)).2.2; exact qn_ok hI1 hF1 (by unfold sp_street; (repeat (first | rw [if_pos (by omega)] | rw [if_neg (by omega)])); (try rfl); unfold renew; rw [ifp_t ea]))
            · refine r_iload 4 d_Mod_street_79 rfl ?_
              refine r_goto 90 d_Mod_street_81 rfl ?_
              refine q_iret d_Mod_street_90 rfl ?_
              first
                | (have ea := (qa.resolve_left (fun z => by omega)).2.1; have hI1 := (qa.resolve_left (fun z => by omega)).2.2; exact qn_no hI1 hF1 q (by unfold sp_street; (repeat (first | rw [if_pos (by omega)] | rw [if_neg (by omega)])); (try rfl); unfold renew; rw [ifp_f ea]))
                | (have ea := (qa.resolve_right (fun z => h76 z.1)).2.1; have hI1 := (qa.resolve_right (fun z => h76 z.1)).2.2; exact qn_ok hI1 hF1 (by unfold sp_street; (repeat (first | rw [if_pos (by omega)] | rw [if_neg (by omega)])); (try rfl); unfold renew; rw [ifp_t ea]))
          · refine r_iconst d_Mod_street_59 ?_
            refine r_goto 64 d_Mod_street_60 rfl ?_
            refine r_istore 4 d_Mod_street_64 (by decide) rfl ?_
            refine r_aload_n 0 d_Mod_street_66 rfl rfl ?_
            refine r_iload_n 1 d_Mod_street_67 rfl rfl ?_
            refine r_iload_n 2 d_Mod_street_68 rfl rfl ?_
            refine r_iconst d_Mod_street_69 ?_
            refine r_bipush d_Mod_street_70 (by decide) ?_
            refine r_iload_n 3 d_Mod_street_72 rfl rfl ?_
            refine r_cVI 8 d_Mod_street_73 lk_Mod_142 vc_Mod_tells (mt_tells (F := (fun _ => m)) hI hk (by omega) (by omega) (by omega) (by omega) (by omega) (by omega) (by omega) (by omega) (fun h h0 h1 => by rw [if_neg (by omega)]) hO1) rfl rfl rfl rfl ⟨Nat.le_of_ble_eq_true rfl, Nat.le_of_ble_eq_true rfl⟩ ⟨Nat.zero_le _, Nat.zero_le _⟩ (Nat.le_of_ble_eq_true rfl) (fun r73 s73 q73 => ?_)
            obtain ⟨qa, hF1⟩ := q73
            refine r_if_eq 84 d_Mod_street_76 rfl (by omega) (fun h76 => ?_) (fun h76 => ?_)
            · refine r_aload_n 0 d_Mod_street_84 rfl rfl ?_
              refine r_bipush d_Mod_street_85 (by decide) ?_
              refine r_cVI 8 d_Mod_street_87 lk_Mod_126 vc_Mod_no (mt_no (by omega)) rfl rfl rfl rfl ⟨Nat.le_of_ble_eq_true rfl, Nat.le_of_ble_eq_true rfl⟩ ⟨Nat.zero_le _, Nat.zero_le _⟩ (Nat.le_of_ble_eq_true rfl) (fun r87 s87 q87 => ?_)
              have q := q87
              refine q_iret d_Mod_street_90 rfl ?_
              first
                | (have ea := (qa.resolve_left (fun z => by omega)).2.1; have hI1 := (qa.resolve_left (fun z => by omega)).2.2; exact qn_no hI1 hF1 q (by unfold sp_street; (repeat (first | rw [if_pos (by omega)] | rw [if_neg (by omega)])); (try rfl); unfold renew; rw [ifp_f ea]))
                | (have ea := (qa.resolve_right (fun z => h76 z.1)).2.1; have hI1 := (qa.resolve_right (fun z => h76 z.1)).2.2; exact qn_ok hI1 hF1 (by unfold sp_street; (repeat (first | rw [if_pos (by omega)] | rw [if_neg (by omega)])); (try rfl); unfold renew; rw [ifp_t ea]))
            · refine r_iload 4 d_Mod_street_79 rfl ?_
              refine r_goto 90 d_Mod_street_81 rfl ?_
              refine q_iret d_Mod_street_90 rfl ?_
              first
                | (have ea := (qa.resolve_left (fun z => by omega)).2.1; have hI1 := (qa.resolve_left (fun z => by omega)).2.2; exact qn_no hI1 hF1 q (by unfold sp_street; (repeat (first | rw [if_pos (by omega)] | rw [if_neg (by omega)])); (try rfl); unfold renew; rw [ifp_f ea]))
                | (have ea := (qa.resolve_right (fun z => h76 z.1)).2.1; have hI1 := (qa.resolve_right (fun z => h76 z.1)).2.2; exact qn_ok hI1 hF1 (by unfold sp_street; (repeat (first | rw [if_pos (by omega)] | rw [if_neg (by omega)])); (try rfl); unfold renew; rw [ifp_t ea]))
        · refine r_aload_n 0 d_Mod_street_38 rfl rfl ?_
          refine r_bipush d_Mod_street_39 (by decide) ?_
          refine r_cVI 8 d_Mod_street_41 lk_Mod_126 vc_Mod_no (mt_no (by omega)) rfl rfl rfl rfl ⟨Nat.le_of_ble_eq_true rfl, Nat.le_of_ble_eq_true rfl⟩ ⟨Nat.zero_le _, Nat.zero_le _⟩ (Nat.le_of_ble_eq_true rfl) (fun r41 s41 q41 => ?_)
          have q := q41
          refine q_iret d_Mod_street_44 rfl ?_
          exact qn_no hI MF.rf q (by unfold sp_street; (repeat (first | rw [if_pos (by omega)] | rw [if_neg (by omega)])); (try rfl))
    · refine r_aload_n 0 d_Mod_street_14 rfl rfl ?_
      refine r_bipush d_Mod_street_15 (by decide) ?_
      refine r_cVI 8 d_Mod_street_17 lk_Mod_126 vc_Mod_no (mt_no (by omega)) rfl rfl rfl rfl ⟨Nat.le_of_ble_eq_true rfl, Nat.le_of_ble_eq_true rfl⟩ ⟨Nat.zero_le _, Nat.zero_le _⟩ (Nat.le_of_ble_eq_true rfl) (fun r17 s17 q17 => ?_)
      have q := q17
      refine q_iret d_Mod_street_20 rfl ?_
      exact qn_no hI MF.rf q (by unfold sp_street; (repeat (first | rw [if_pos (by omega)] | rw [if_neg (by omega)])); (try rfl))
theorem cr_slow {σ : sto} {g : G} {a b h m : Int} (hI : RI σ g) (hk : g.ok) (h_a : inR a) (h_b : inR b) (h_h : inR h) (h_m : inR m) : CI M_Mod_slow 14 [vR 169, vI a, vI b, vI h, vI m] σ (QM (sp_slow g a b h m) σ) := by
  obtain ⟨hQ, hE⟩ := id hI
  obtain ⟨hC, hU, h45, hrow, h33, hrf⟩ := id hE
  obtain ⟨k1, k2, k3, k4, k5, k6⟩ := id hk
  have hn := k1.1
  have hRV := k2.rv hn.1 hn.2.1
  refine ci_of [vR 169, vI a, vI b, vI h, vI m, vU] fy_Mod_slow.1 rfl (Nat.le_of_ble_eq_true rfl) ?_
  refine r_iload_n 1 d_Mod_slow_0 rfl rfl ?_
  refine r_cSI d_Mod_slow_1 lk_Mod_116 sc_Mod_isPlace (mt_isPlace (by omega)) rfl rfl ⟨Nat.le_of_ble_eq_true rfl, Nat.le_of_ble_eq_true rfl⟩ ⟨Nat.zero_le _, Nat.zero_le _⟩ (Nat.le_of_ble_eq_true rfl) (fun r1 s1 q1 => ?_)
  obtain ⟨q1, hs1⟩ := q1
  have hs1 := hs1.symm
  subst hs1
  refine r_if_eq 26 d_Mod_slow_4 rfl (by omega) (fun h4 => ?_) (fun h4 => ?_)
  · refine r_aload_n 0 d_Mod_slow_26 rfl rfl ?_
    refine r_bipush d_Mod_slow_27 (by decide) ?_
    refine r_cVI 8 d_Mod_slow_29 lk_Mod_126 vc_Mod_no (mt_no (by omega)) rfl rfl rfl rfl ⟨Nat.le_of_ble_eq_true rfl, Nat.le_of_ble_eq_true rfl⟩ ⟨Nat.zero_le _, Nat.zero_le _⟩ (Nat.le_of_ble_eq_true rfl) (fun r29 s29 q29 => ?_)
    have q := q29
    refine q_iret d_Mod_slow_32 rfl ?_
    exact qn_no hI MF.rf q (by unfold sp_slow; (repeat (first | rw [if_pos (by omega)] | rw [if_neg (by omega)])); (try rfl))
  · refine r_iload_n 2 d_Mod_slow_7 rfl rfl ?_
    refine r_cSI d_Mod_slow_8 lk_Mod_116 sc_Mod_isPlace (mt_isPlace (by omega)) rfl rfl ⟨Nat.le_of_ble_eq_true rfl, Nat.le_of_ble_eq_true rfl⟩ ⟨Nat.zero_le _, Nat.zero_le _⟩ (Nat.le_of_ble_eq_true rfl) (fun r8 s8 q8 => ?_)
    obtain ⟨q8, hs8⟩ := q8
    have hs8 := hs8.symm
    subst hs8
    refine r_if_eq 26 d_Mod_slow_11 rfl (by omega) (fun h11 => ?_) (fun h11 => ?_)
    · refine r_aload_n 0 d_Mod_slow_26 rfl rfl ?_
      refine r_bipush d_Mod_slow_27 (by decide) ?_
      refine r_cVI 8 d_Mod_slow_29 lk_Mod_126 vc_Mod_no (mt_no (by omega)) rfl rfl rfl rfl ⟨Nat.le_of_ble_eq_true rfl, Nat.le_of_ble_eq_true rfl⟩ ⟨Nat.zero_le _, Nat.zero_le _⟩ (Nat.le_of_ble_eq_true rfl) (fun r29 s29 q29 => ?_)
      have q := q29
      refine q_iret d_Mod_slow_32 rfl ?_
      exact qn_no hI MF.rf q (by unfold sp_slow; (repeat (first | rw [if_pos (by omega)] | rw [if_neg (by omega)])); (try rfl))
    · refine r_iload_n 3 d_Mod_slow_14 rfl rfl ?_
      refine r_i2l d_Mod_slow_15 (by omega) ?_
      refine r_lconst (z := 0) d_Mod_slow_16 (by decide) ?_
      refine r_ldc2 kc_Mod_146 d_Mod_slow_17 ?_
      refine r_cSI d_Mod_slow_20 lk_Mod_122 sc_Mod_isIn (mt_isIn (by omega) (by omega) (by omega)) rfl rfl ⟨Nat.le_of_ble_eq_true rfl, Nat.le_of_ble_eq_true rfl⟩ ⟨Nat.zero_le _, Nat.zero_le _⟩ (Nat.le_of_ble_eq_true rfl) (fun r20 s20 q20 => ?_)
      obtain ⟨q20, hs20⟩ := q20
      have hs20 := hs20.symm
      subst hs20
      refine r_if_ne 33 d_Mod_slow_23 rfl (by omega) (fun h23 => ?_) (fun h23 => ?_)
      · have hso := k1.2.2.2.2 a b (by omega) (by omega) (by omega) (by omega)
        have hso2 := hso.2.1
        have hs0 := fun h h0 h1 => hC.2.2.2.2.2 a b h (by omega) (by omega) (by omega) (by omega) h0 h1
        have hti : ∀ h, 0 ≤ h → h < 8 → 0 ≤ tk g.D a b h ∧ tk g.D a b h ≤ 99 := fun h h0 h1 => by rcases hso2 with z | z <;> have := z h h0 h1 <;> omega
        have ht0 := hti 0 (by omega) (by omega)
        have e00 := hs0 0 (by omega) (by omega)
        have e0h := hs0 h (by omega) (by omega)
        have hth := hti h (by omega) (by omega)
        have hz : tk g.D a b h = 0 ↔ tk g.D a b 0 = 0 := by rcases hso2 with z | z <;> have := z 0 (by omega) (by omega) <;> have := z h (by omega) (by omega) <;> omega
        refine r_aload_n 0 d_Mod_slow_33 rfl rfl ?_
        refine r_getR 170 d_Mod_slow_34 fk_Mod_7 rfl rfl rfl (by decide) ?_
        refine r_iload_n 1 d_Mod_slow_37 rfl rfl ?_
        refine r_iload_n 2 d_Mod_slow_38 rfl rfl ?_
        refine r_iload_n 3 d_Mod_slow_39 rfl rfl ?_
        refine r_cSP d_Mod_slow_40 lk_Mod_108 sc_Mod_at mt_at rfl rfl ⟨Nat.le_of_ble_eq_true rfl, Nat.le_of_ble_eq_true rfl⟩ ⟨Nat.zero_le _, Nat.zero_le _⟩ (Nat.le_of_ble_eq_true rfl) ?_
        refine r_iald 512 d_Mod_slow_43 rfl rfl (by omega) (by omega) ?_
        rw [e0h]
        refine r_istore 5 d_Mod_slow_44 (by decide) rfl ?_
        refine r_iload 5 d_Mod_slow_46 rfl ?_
        refine r_if_ne 58 d_Mod_slow_48 rfl (by omega) (fun h48 => ?_) (fun h48 => ?_)
        · refine r_iload 4 d_Mod_slow_58 rfl ?_
          refine r_i2l d_Mod_slow_60 (by omega) ?_
          refine r_lconst (z := 1) d_Mod_slow_61 (by decide) ?_
          refine r_ldc2 kc_Mod_140 d_Mod_slow_62 ?_
          refine r_cSI d_Mod_slow_65 lk_Mod_122 sc_Mod_isIn (mt_isIn (by omega) (by omega) (by omega)) rfl rfl ⟨Nat.le_of_ble_eq_true rfl, Nat.le_of_ble_eq_true rfl⟩ ⟨Nat.zero_le _, Nat.zero_le _⟩ (Nat.le_of_ble_eq_true rfl) (fun r65 s65 q65 => ?_)
          obtain ⟨q65, hs65⟩ := q65
          have hs65 := hs65.symm
          subst hs65
          refine r_if_eq 89 d_Mod_slow_68 rfl (by omega) (fun h68 => ?_) (fun h68 => ?_)
          · refine r_aload_n 0 d_Mod_slow_89 rfl rfl ?_
            refine r_bipush d_Mod_slow_90 (by decide) ?_
            refine r_cVI 8 d_Mod_slow_92 lk_Mod_126 vc_Mod_no (mt_no (by omega)) rfl rfl rfl rfl ⟨Nat.le_of_ble_eq_true rfl, Nat.le_of_ble_eq_true rfl⟩ ⟨Nat.zero_le _, Nat.zero_le _⟩ (Nat.le_of_ble_eq_true rfl) (fun r92 s92 q92 => ?_)
            have q := q92
            refine q_iret d_Mod_slow_95 rfl ?_
            first
              | exact qn_no hI MF.rf q (by unfold sp_slow; (repeat (first | rw [if_pos (by omega)] | rw [if_neg (by omega)])); (try rfl))
              | (have ea := (qa.resolve_left (fun z => by omega)).2.1; have hI1 := (qa.resolve_left (fun z => by omega)).2.2; exact qn_no hI1 hF1 q (by unfold sp_slow; (repeat (first | rw [if_pos (by omega)] | rw [if_neg (by omega)])); (try rfl); unfold renew; rw [ifp_f ea]))
              | (have ea := (qa.resolve_right (fun z => h81 z.1)).2.1; have hI1 := (qa.resolve_right (fun z => h81 z.1)).2.2; exact qn_ok hI1 hF1 (by unfold sp_slow; (repeat (first | rw [if_pos (by omega)] | rw [if_neg (by omega)])); (try rfl); unfold renew; rw [ifp_t ea]))
          · have hso3 := hso2.resolve_left (fun z => by have := z h (by omega) (by omega); omega)
            have hab : a ≠ b := fun z => by have := hso.2.2 z 0 (by omega) (by omega); omega
            have hO1 : DOK (dST g.D a b (fun k => if k = h then m else tk g.D a b k)) g.ns g.nv := k1.st (SOK_dST k1.2.2.2.2 (by omega) (by omega) (by omega) (by omega) hab (Or.inr (fun k z0 z1 => by have := hso3 k z0 z1; show 1 ≤ (if k = h then m else tk g.D a b k) ∧ (if k = h then m else tk g.D a b k) ≤ 99; split <;> omega))) (fun k i z => dST_ne z)
            refine r_aload_n 0 d_Mod_slow_71 rfl rfl ?_
            refine r_iload_n 1 d_Mod_slow_72 rfl rfl ?_
            refine r_iload_n 2 d_Mod_slow_73 rfl rfl ?_
            refine r_iload_n 3 d_Mod_slow_74 rfl rfl ?_
            refine r_iload_n 3 d_Mod_slow_75 rfl rfl ?_
            refine r_iload 4 d_Mod_slow_76 rfl ?_
            refine r_cVI 8 d_Mod_slow_78 lk_Mod_142 vc_Mod_tells (mt_tells (F := (fun k => if k = h then m else tk g.D a b k)) hI hk (by omega) (by omega) (by omega) (by omega) (by omega) (by omega) (by omega) (by omega) (fun h h0 h1 => by show (if h = _ then m else tk g.D a b h) = _; split <;> split <;> first | rfl | omega) hO1) rfl rfl rfl rfl ⟨Nat.le_of_ble_eq_true rfl, Nat.le_of_ble_eq_true rfl⟩ ⟨Nat.zero_le _, Nat.zero_le _⟩ (Nat.le_of_ble_eq_true rfl) (fun r78 s78 q78 => ?_)
            obtain ⟨qa, hF1⟩ := q78
            refine r_if_eq 89 d_Mod_slow_81 rfl (by omega) (fun h81 => ?_) (fun h81 => ?_)
            · refine r_aload_n 0 d_Mod_slow_89 rfl rfl ?_
              refine r_bipush d_Mod_slow_90 (by decide) ?_
              refine r_cVI 8 d_Mod_slow_92 lk_Mod_126 vc_Mod_no (mt_no (by omega)) rfl rfl rfl rfl ⟨Nat.le_of_ble_eq_true rfl, Nat.le_of_ble_eq_true rfl⟩ ⟨Nat.zero_le _, Nat.zero_le _⟩ (Nat.le_of_ble_eq_true rfl) (fun r92 s92 q92 => ?_)
              have q := q92
              refine q_iret d_Mod_slow_95 rfl ?_
              first
                | exact qn_no hI MF.rf q (by unfold sp_slow; (repeat (first | rw [if_pos (by omega)] | rw [if_neg (by omega)])); (try rfl))
                | (have ea := (qa.resolve_left (fun z => by omega)).2.1; have hI1 := (qa.resolve_left (fun z => by omega)).2.2; exact qn_no hI1 hF1 q (by unfold sp_slow; (repeat (first | rw [if_pos (by omega)] | rw [if_neg (by omega)])); (try rfl); unfold renew; rw [ifp_f ea]))
                | (have ea := (qa.resolve_right (fun z => h81 z.1)).2.1; have hI1 := (qa.resolve_right (fun z => h81 z.1)).2.2; exact qn_ok hI1 hF1 (by unfold sp_slow; (repeat (first | rw [if_pos (by omega)] | rw [if_neg (by omega)])); (try rfl); unfold renew; rw [ifp_t ea]))
            · refine r_iload 5 d_Mod_slow_84 rfl ?_
              refine r_goto 95 d_Mod_slow_86 rfl ?_
              refine q_iret d_Mod_slow_95 rfl ?_
              first
                | exact qn_no hI MF.rf q (by unfold sp_slow; (repeat (first | rw [if_pos (by omega)] | rw [if_neg (by omega)])); (try rfl))
                | (have ea := (qa.resolve_left (fun z => by omega)).2.1; have hI1 := (qa.resolve_left (fun z => by omega)).2.2; exact qn_no hI1 hF1 q (by unfold sp_slow; (repeat (first | rw [if_pos (by omega)] | rw [if_neg (by omega)])); (try rfl); unfold renew; rw [ifp_f ea]))
                | (have ea := (qa.resolve_right (fun z => h81 z.1)).2.1; have hI1 := (qa.resolve_right (fun z => h81 z.1)).2.2; exact qn_ok hI1 hF1 (by unfold sp_slow; (repeat (first | rw [if_pos (by omega)] | rw [if_neg (by omega)])); (try rfl); unfold renew; rw [ifp_t ea]))
        · refine r_aload_n 0 d_Mod_slow_51 rfl rfl ?_
          refine r_bipush d_Mod_slow_52 (by decide) ?_
          refine r_cVI 8 d_Mod_slow_54 lk_Mod_126 vc_Mod_no (mt_no (by omega)) rfl rfl rfl rfl ⟨Nat.le_of_ble_eq_true rfl, Nat.le_of_ble_eq_true rfl⟩ ⟨Nat.zero_le _, Nat.zero_le _⟩ (Nat.le_of_ble_eq_true rfl) (fun r54 s54 q54 => ?_)
          have q := q54
          refine q_iret d_Mod_slow_57 rfl ?_
          exact qn_no hI MF.rf q (by unfold sp_slow; (repeat (first | rw [if_pos (by omega)] | rw [if_neg (by omega)])); (try rfl))
      · refine r_aload_n 0 d_Mod_slow_26 rfl rfl ?_
        refine r_bipush d_Mod_slow_27 (by decide) ?_
        refine r_cVI 8 d_Mod_slow_29 lk_Mod_126 vc_Mod_no (mt_no (by omega)) rfl rfl rfl rfl ⟨Nat.le_of_ble_eq_true rfl, Nat.le_of_ble_eq_true rfl⟩ ⟨Nat.zero_le _, Nat.zero_le _⟩ (Nat.le_of_ble_eq_true rfl) (fun r29 s29 q29 => ?_)
        have q := q29
        refine q_iret d_Mod_slow_32 rfl ?_
        exact qn_no hI MF.rf q (by unfold sp_slow; (repeat (first | rw [if_pos (by omega)] | rw [if_neg (by omega)])); (try rfl))
theorem cr_price {σ : sto} {g : G} {s p : Int} (hI : RI σ g) (hk : g.ok) (h_s : inR s) (h_p : inR p) : CI M_Mod_price 14 [vR 169, vI s, vI p] σ (QM (sp_price g s p) σ) := by
  obtain ⟨hQ, hE⟩ := id hI
  obtain ⟨hC, hU, h45, hrow, h33, hrf⟩ := id hE
  obtain ⟨k1, k2, k3, k4, k5, k6⟩ := id hk
  have hn := k1.1
  have hRV := k2.rv hn.1 hn.2.1
  refine ci_of [vR 169, vI s, vI p, vU] fy_Mod_price.1 rfl (Nat.le_of_ble_eq_true rfl) ?_
  refine r_aload_n 0 d_Mod_price_0 rfl rfl ?_
  refine r_iload_n 1 d_Mod_price_1 rfl rfl ?_
  refine r_cVI 8 d_Mod_price_2 lk_Mod_148 vc_Mod_isStop (mt_isStop hC.1 (by omega) (by omega)) rfl rfl rfl rfl ⟨Nat.le_of_ble_eq_true rfl, Nat.le_of_ble_eq_true rfl⟩ ⟨Nat.zero_le _, Nat.zero_le _⟩ (Nat.le_of_ble_eq_true rfl) (fun r2 s2 q2 => ?_)
  obtain ⟨q2, hs2⟩ := q2
  have hs2 := hs2.symm
  subst hs2
  refine r_if_ne 15 d_Mod_price_5 rfl (by omega) (fun h5 => ?_) (fun h5 => ?_)
  · have hat := hC.at (s := s) (by omega) (by omega)
    have hds := k1.2.1 s (by omega) (by omega)
    refine r_aload_n 0 d_Mod_price_15 rfl rfl ?_
    refine r_getR 171 d_Mod_price_16 fk_Mod_13 rfl rfl rfl (by decide) ?_
    refine r_iload_n 1 d_Mod_price_19 rfl rfl ?_
    refine r_iald 12 d_Mod_price_20 rfl rfl (by omega) (by omega) ?_
    rw [hat.1]
    refine r_iconst d_Mod_price_21 ?_
    refine r_icmp_eq 32 d_Mod_price_22 rfl (by omega) (by omega) (fun h22 => ?_) (fun h22 => ?_)
    · refine r_iload_n 2 d_Mod_price_32 rfl rfl ?_
      refine r_i2l d_Mod_price_33 (by omega) ?_
      refine r_lconst (z := 1) d_Mod_price_34 (by decide) ?_
      refine r_ldc2 kc_Mod_159 d_Mod_price_35 ?_
      refine r_cSI d_Mod_price_38 lk_Mod_122 sc_Mod_isIn (mt_isIn (by omega) (by omega) (by omega)) rfl rfl ⟨Nat.le_of_ble_eq_true rfl, Nat.le_of_ble_eq_true rfl⟩ ⟨Nat.zero_le _, Nat.zero_le _⟩ (Nat.le_of_ble_eq_true rfl) (fun r38 s38 q38 => ?_)
      obtain ⟨q38, hs38⟩ := q38
      have hs38 := hs38.symm
      subst hs38
      refine r_if_ne 51 d_Mod_price_41 rfl (by omega) (fun h41 => ?_) (fun h41 => ?_)
      · refine r_aload_n 0 d_Mod_price_51 rfl rfl ?_
        refine r_getR 178 d_Mod_price_52 fk_Mod_34 rfl rfl rfl (by decide) ?_
        refine r_iload_n 1 d_Mod_price_55 rfl rfl ?_
        refine r_iald 12 d_Mod_price_56 rfl rfl (by omega) (by omega) ?_
        rw [hat.2.2.2.2.2.2]
        refine r_istore_n 3 d_Mod_price_57 rfl (by decide) rfl ?_
        refine r_aload_n 0 d_Mod_price_58 rfl rfl ?_
        refine r_getR 178 d_Mod_price_59 fk_Mod_34 rfl rfl rfl (by decide) ?_
        refine r_iload_n 1 d_Mod_price_62 rfl rfl ?_
        refine r_iload_n 2 d_Mod_price_63 rfl rfl ?_
        refine r_iast 12 d_Mod_price_64 rfl rfl (by omega) (by omega) ?_
        refine r_aload_n 0 d_Mod_price_65 rfl rfl ?_
        refine r_iconst d_Mod_price_66 ?_
        refine r_putI 20 d_Mod_price_67 fk_Mod_137 rfl rfl rfl (Or.inl rfl) ?_
        refine r_iload_n 3 d_Mod_price_70 rfl rfl ?_
        refine q_iret d_Mod_price_71 rfl ?_
        exact qn_eq (rin_data (D' := wr g.D 7 s p) hI (fun c i q => wr_ne (by omega)) (hC.both (by omega))) (by unfold sp_price; (repeat (first | rw [if_pos (by omega)] | rw [if_neg (by omega)])); (try rfl))
      · refine r_aload_n 0 d_Mod_price_44 rfl rfl ?_
        refine r_bipush d_Mod_price_45 (by decide) ?_
        refine r_cVI 8 d_Mod_price_47 lk_Mod_126 vc_Mod_no (mt_no (by omega)) rfl rfl rfl rfl ⟨Nat.le_of_ble_eq_true rfl, Nat.le_of_ble_eq_true rfl⟩ ⟨Nat.zero_le _, Nat.zero_le _⟩ (Nat.le_of_ble_eq_true rfl) (fun r47 s47 q47 => ?_)
        have q := q47
        refine q_iret d_Mod_price_50 rfl ?_
        exact qn_no hI MF.rf q (by unfold sp_price; (repeat (first | rw [if_pos (by omega)] | rw [if_neg (by omega)])); (try rfl))
    · refine r_aload_n 0 d_Mod_price_25 rfl rfl ?_
      refine r_bipush d_Mod_price_26 (by decide) ?_
      refine r_cVI 8 d_Mod_price_28 lk_Mod_126 vc_Mod_no (mt_no (by omega)) rfl rfl rfl rfl ⟨Nat.le_of_ble_eq_true rfl, Nat.le_of_ble_eq_true rfl⟩ ⟨Nat.zero_le _, Nat.zero_le _⟩ (Nat.le_of_ble_eq_true rfl) (fun r28 s28 q28 => ?_)
      have q := q28
      refine q_iret d_Mod_price_31 rfl ?_
      exact qn_no hI MF.rf q (by unfold sp_price; (repeat (first | rw [if_pos (by omega)] | rw [if_neg (by omega)])); (try rfl))
  · refine r_aload_n 0 d_Mod_price_8 rfl rfl ?_
    refine r_bipush d_Mod_price_9 (by decide) ?_
    refine r_cVI 8 d_Mod_price_11 lk_Mod_126 vc_Mod_no (mt_no (by omega)) rfl rfl rfl rfl ⟨Nat.le_of_ble_eq_true rfl, Nat.le_of_ble_eq_true rfl⟩ ⟨Nat.zero_le _, Nat.zero_le _⟩ (Nat.le_of_ble_eq_true rfl) (fun r11 s11 q11 => ?_)
    have q := q11
    refine q_iret d_Mod_price_14 rfl ?_
    exact qn_no hI MF.rf q (by unfold sp_price; (repeat (first | rw [if_pos (by omega)] | rw [if_neg (by omega)])); (try rfl))
theorem cr_van {σ : sto} {g : G} {l sh f : Int} (hI : RI σ g) (hk : g.ok) (h_l : inR l) (h_sh : inR sh) (h_f : inR f) : CI M_Mod_van 14 [vR 169, vI l, vI sh, vI f] σ (QM (sp_van g l sh f) σ) := by
  obtain ⟨hQ, hE⟩ := id hI
  obtain ⟨hC, hU, h45, hrow, h33, hrf⟩ := id hE
  obtain ⟨k1, k2, k3, k4, k5, k6⟩ := id hk
  have hn := k1.1
  have hRV := k2.rv hn.1 hn.2.1
  refine ci_of [vR 169, vI l, vI sh, vI f] fy_Mod_van.1 rfl (Nat.le_of_ble_eq_true rfl) ?_
  refine r_iload_n 1 d_Mod_van_0 rfl rfl ?_
  refine r_i2l d_Mod_van_1 (by omega) ?_
  refine r_lconst (z := 1) d_Mod_van_2 (by decide) ?_
  refine r_ldc2 kc_Mod_161 d_Mod_van_3 ?_
  refine r_cSI d_Mod_van_6 lk_Mod_122 sc_Mod_isIn (mt_isIn (by omega) (by omega) (by omega)) rfl rfl ⟨Nat.le_of_ble_eq_true rfl, Nat.le_of_ble_eq_true rfl⟩ ⟨Nat.zero_le _, Nat.zero_le _⟩ (Nat.le_of_ble_eq_true rfl) (fun r6 s6 q6 => ?_)
  obtain ⟨q6, hs6⟩ := q6
  have hs6 := hs6.symm
  subst hs6
  refine r_if_eq 31 d_Mod_van_9 rfl (by omega) (fun h9 => ?_) (fun h9 => ?_)
  · refine r_aload_n 0 d_Mod_van_31 rfl rfl ?_
    refine r_bipush d_Mod_van_32 (by decide) ?_
    refine r_cVI 8 d_Mod_van_34 lk_Mod_126 vc_Mod_no (mt_no (by omega)) rfl rfl rfl rfl ⟨Nat.le_of_ble_eq_true rfl, Nat.le_of_ble_eq_true rfl⟩ ⟨Nat.zero_le _, Nat.zero_le _⟩ (Nat.le_of_ble_eq_true rfl) (fun r34 s34 q34 => ?_)
    have q := q34
    refine q_iret d_Mod_van_37 rfl ?_
    exact qn_no hI MF.rf q (by unfold sp_van; (repeat (first | rw [if_pos (by omega)] | rw [if_neg (by omega)])); (try rfl))
  · refine r_iload_n 2 d_Mod_van_12 rfl rfl ?_
    refine r_cSI d_Mod_van_13 lk_Mod_153 sc_Mod_isSpan (mt_isSpan (by omega)) rfl rfl ⟨Nat.le_of_ble_eq_true rfl, Nat.le_of_ble_eq_true rfl⟩ ⟨Nat.zero_le _, Nat.zero_le _⟩ (Nat.le_of_ble_eq_true rfl) (fun r13 s13 q13 => ?_)
    obtain ⟨q13, hs13⟩ := q13
    have hs13 := hs13.symm
    subst hs13
    refine r_if_eq 31 d_Mod_van_16 rfl (by omega) (fun h16 => ?_) (fun h16 => ?_)
    · refine r_aload_n 0 d_Mod_van_31 rfl rfl ?_
      refine r_bipush d_Mod_van_32 (by decide) ?_
      refine r_cVI 8 d_Mod_van_34 lk_Mod_126 vc_Mod_no (mt_no (by omega)) rfl rfl rfl rfl ⟨Nat.le_of_ble_eq_true rfl, Nat.le_of_ble_eq_true rfl⟩ ⟨Nat.zero_le _, Nat.zero_le _⟩ (Nat.le_of_ble_eq_true rfl) (fun r34 s34 q34 => ?_)
      have q := q34
      refine q_iret d_Mod_van_37 rfl ?_
      exact qn_no hI MF.rf q (by unfold sp_van; (repeat (first | rw [if_pos (by omega)] | rw [if_neg (by omega)])); (try rfl))
    · refine r_iload_n 3 d_Mod_van_19 rfl rfl ?_
      refine r_i2l d_Mod_van_20 (by omega) ?_
      refine r_lconst (z := 0) d_Mod_van_21 (by decide) ?_
      refine r_ldc2 kc_Mod_163 d_Mod_van_22 ?_
      refine r_cSI d_Mod_van_25 lk_Mod_122 sc_Mod_isIn (mt_isIn (by omega) (by omega) (by omega)) rfl rfl ⟨Nat.le_of_ble_eq_true rfl, Nat.le_of_ble_eq_true rfl⟩ ⟨Nat.zero_le _, Nat.zero_le _⟩ (Nat.le_of_ble_eq_true rfl) (fun r25 s25 q25 => ?_)
      obtain ⟨q25, hs25⟩ := q25
      have hs25 := hs25.symm
      subst hs25
      refine r_if_ne 38 d_Mod_van_28 rfl (by omega) (fun h28 => ?_) (fun h28 => ?_)
      · refine r_aload_n 0 d_Mod_van_38 rfl rfl ?_
        refine r_getI 14 d_Mod_van_39 fk_Mod_105 rfl rfl rfl ?_
        rw [hC.2.1]
        refine r_iconst d_Mod_van_42 ?_
        refine r_icmp_ne 53 d_Mod_van_43 rfl (by omega) (by omega) (fun h43 => ?_) (fun h43 => ?_)
        · refine r_aload_n 0 d_Mod_van_53 rfl rfl ?_
          refine r_getR 179 d_Mod_van_54 fk_Mod_37 rfl rfl rfl (by decide) ?_
          refine r_aload_n 0 d_Mod_van_57 rfl rfl ?_
          refine r_getI 14 d_Mod_van_58 fk_Mod_105 rfl rfl rfl ?_
          rw [hC.2.1]
          refine r_iload_n 1 d_Mod_van_61 rfl rfl ?_
          refine r_iast 3 d_Mod_van_62 rfl rfl (by omega) (by omega) ?_
          refine r_aload_n 0 d_Mod_van_63 rfl rfl ?_
          refine r_getR 180 d_Mod_van_64 fk_Mod_40 rfl rfl rfl (by decide) ?_
          refine r_aload_n 0 d_Mod_van_67 rfl rfl ?_
          refine r_getI 14 d_Mod_van_68 fk_Mod_105 rfl rfl rfl ?_
          rw [wr_ne (by omega), hC.2.1]
          refine r_iload_n 2 d_Mod_van_71 rfl rfl ?_
          refine r_sipush d_Mod_van_72 (by decide) ?_
          refine r_idiv d_Mod_van_75 (by omega) (by omega) ?_
          refine r_iast 3 d_Mod_van_76 rfl rfl (by omega) (by omega) ?_
          refine r_aload_n 0 d_Mod_van_77 rfl rfl ?_
          refine r_getR 181 d_Mod_van_78 fk_Mod_43 rfl rfl rfl (by decide) ?_
          refine r_aload_n 0 d_Mod_van_81 rfl rfl ?_
          refine r_getI 14 d_Mod_van_82 fk_Mod_105 rfl rfl rfl ?_
          rw [wr_ne (by omega), wr_ne (by omega), hC.2.1]
          refine r_iload_n 2 d_Mod_van_85 rfl rfl ?_
          refine r_sipush d_Mod_van_86 (by decide) ?_
          refine r_irem d_Mod_van_89 (by omega) (by omega) ?_
          refine r_iast 3 d_Mod_van_90 rfl rfl (by omega) (by omega) ?_
          refine r_aload_n 0 d_Mod_van_91 rfl rfl ?_
          refine r_getR 182 d_Mod_van_92 fk_Mod_46 rfl rfl rfl (by decide) ?_
          refine r_aload_n 0 d_Mod_van_95 rfl rfl ?_
          refine r_getI 14 d_Mod_van_96 fk_Mod_105 rfl rfl rfl ?_
          rw [wr_ne (by omega), wr_ne (by omega), wr_ne (by omega), hC.2.1]
          refine r_iload_n 3 d_Mod_van_99 rfl rfl ?_
          refine r_iast 3 d_Mod_van_100 rfl rfl (by omega) (by omega) ?_
          refine r_aload_n 0 d_Mod_van_101 rfl rfl ?_
          refine r_dup d_Mod_van_102 rfl ?_
          refine r_getI 14 d_Mod_van_103 fk_Mod_105 rfl rfl rfl ?_
          rw [wr_ne (by omega), wr_ne (by omega), wr_ne (by omega), wr_ne (by omega), hC.2.1]
          refine r_iconst d_Mod_van_106 ?_
          refine r_iadd d_Mod_van_107 ?_
          refine r_putI 14 d_Mod_van_108 fk_Mod_105 rfl rfl rfl (Or.inl rfl) ?_
          refine r_aload_n 0 d_Mod_van_111 rfl rfl ?_
          refine r_iconst d_Mod_van_112 ?_
          refine r_putI 20 d_Mod_van_113 fk_Mod_137 rfl rfl rfl (Or.inl rfl) ?_
          refine r_aload_n 0 d_Mod_van_116 rfl rfl ?_
          refine r_getI 14 d_Mod_van_117 fk_Mod_105 rfl rfl rfl ?_
          rw [wr_ne (by omega), wr_eq]
          refine r_iconst d_Mod_van_120 ?_
          refine r_isub d_Mod_van_121 ?_
          rw [show g.nv + 1 - 1 = g.nv by omega]
          refine q_iret d_Mod_van_122 rfl ?_
          have hd := (((hC.both (c := 179) (k := 8) (i := g.nv) (v := l) (by omega)).both (c := 180) (k := 9) (i := g.nv) (v := sh / 1000) (by omega)).both (c := 181) (k := 10) (i := g.nv) (v := sh % 1000) (by omega)).both (c := 182) (k := 11) (i := g.nv) (v := f) (by omega)
          have hd2 : DR (wr (wr (wr (wr (wr σ 179 g.nv l) 180 g.nv (sh / 1000)) 181 g.nv (sh % 1000)) 182 g.nv f) 169 14 (g.nv + 1)) (wr (wr (wr (wr g.D 8 g.nv l) 9 g.nv (sh / 1000)) 10 g.nv (sh % 1000)) 11 g.nv f) g.ns (g.nv + 1) := by
            obtain ⟨d1, d2, d3, d4, d5, d6⟩ := hd
            exact ⟨by rw [wr_ne (by omega)]; exact d1, wr_eq, fun s s0 s1 => by rw [wr_ne (by omega), wr_ne (by omega), wr_ne (by omega), wr_ne (by omega), wr_ne (by omega), wr_ne (by omega), wr_ne (by omega)]; exact d3 s s0 s1, fun s s0 s1 => by rw [wr_ne (by omega)]; exact d4 s s0 s1, fun u u0 u1 => by rw [wr_ne (by omega), wr_ne (by omega), wr_ne (by omega), wr_ne (by omega)]; exact d5 u u0 u1, d6.keep (fun i => wr_ne (by omega))⟩
          rw [wr_cm (σ := wr (wr g.D 8 g.nv l) 9 g.nv (sh / 1000)) (c := 10) (c' := 11) (by omega), wr_cm (σ := wr g.D 8 g.nv l) (c := 9) (c' := 11) (by omega)] at hd2
          exact qn_eq (rin_data hI (fun c i q => by rw [wr_ne (by omega), wr_ne (by omega), wr_ne (by omega), wr_ne (by omega), wr_ne (by omega)]) hd2) (by unfold sp_van; (repeat (first | rw [if_pos (by omega)] | rw [if_neg (by omega)])); (try rfl))
        · refine r_aload_n 0 d_Mod_van_46 rfl rfl ?_
          refine r_bipush d_Mod_van_47 (by decide) ?_
          refine r_cVI 8 d_Mod_van_49 lk_Mod_126 vc_Mod_no (mt_no (by omega)) rfl rfl rfl rfl ⟨Nat.le_of_ble_eq_true rfl, Nat.le_of_ble_eq_true rfl⟩ ⟨Nat.zero_le _, Nat.zero_le _⟩ (Nat.le_of_ble_eq_true rfl) (fun r49 s49 q49 => ?_)
          have q := q49
          refine q_iret d_Mod_van_52 rfl ?_
          exact qn_no hI MF.rf q (by unfold sp_van; (repeat (first | rw [if_pos (by omega)] | rw [if_neg (by omega)])); (try rfl))
      · refine r_aload_n 0 d_Mod_van_31 rfl rfl ?_
        refine r_bipush d_Mod_van_32 (by decide) ?_
        refine r_cVI 8 d_Mod_van_34 lk_Mod_126 vc_Mod_no (mt_no (by omega)) rfl rfl rfl rfl ⟨Nat.le_of_ble_eq_true rfl, Nat.le_of_ble_eq_true rfl⟩ ⟨Nat.zero_le _, Nat.zero_le _⟩ (Nat.le_of_ble_eq_true rfl) (fun r34 s34 q34 => ?_)
        have q := q34
        refine q_iret d_Mod_van_37 rfl ?_
        exact qn_no hI MF.rf q (by unfold sp_van; (repeat (first | rw [if_pos (by omega)] | rw [if_neg (by omega)])); (try rfl))
theorem cr_span {σ : sto} {g : G} {s sp : Int} (hI : RI σ g) (hk : g.ok) (h_s : inR s) (h_sp : inR sp) : CI M_Mod_span 14 [vR 169, vI s, vI sp] σ (QM (sp_span g s sp) σ) := by
  obtain ⟨hQ, hE⟩ := id hI
  obtain ⟨hC, hU, h45, hrow, h33, hrf⟩ := id hE
  obtain ⟨k1, k2, k3, k4, k5, k6⟩ := id hk
  have hn := k1.1
  have hRV := k2.rv hn.1 hn.2.1
  refine ci_of [vR 169, vI s, vI sp, vU] fy_Mod_span.1 rfl (Nat.le_of_ble_eq_true rfl) ?_
  refine r_aload_n 0 d_Mod_span_0 rfl rfl ?_
  refine r_iload_n 1 d_Mod_span_1 rfl rfl ?_
  refine r_cVI 8 d_Mod_span_2 lk_Mod_148 vc_Mod_isStop (mt_isStop hC.1 (by omega) (by omega)) rfl rfl rfl rfl ⟨Nat.le_of_ble_eq_true rfl, Nat.le_of_ble_eq_true rfl⟩ ⟨Nat.zero_le _, Nat.zero_le _⟩ (Nat.le_of_ble_eq_true rfl) (fun r2 s2 q2 => ?_)
  obtain ⟨q2, hs2⟩ := q2
  have hs2 := hs2.symm
  subst hs2
  refine r_if_ne 15 d_Mod_span_5 rfl (by omega) (fun h5 => ?_) (fun h5 => ?_)
  · have hat := hC.at (s := s) (by omega) (by omega)
    have hds := k1.2.1 s (by omega) (by omega)
    refine r_iload_n 2 d_Mod_span_15 rfl rfl ?_
    refine r_cSI d_Mod_span_16 lk_Mod_153 sc_Mod_isSpan (mt_isSpan (by omega)) rfl rfl ⟨Nat.le_of_ble_eq_true rfl, Nat.le_of_ble_eq_true rfl⟩ ⟨Nat.zero_le _, Nat.zero_le _⟩ (Nat.le_of_ble_eq_true rfl) (fun r16 s16 q16 => ?_)
    obtain ⟨q16, hs16⟩ := q16
    have hs16 := hs16.symm
    subst hs16
    refine r_if_ne 29 d_Mod_span_19 rfl (by omega) (fun h19 => ?_) (fun h19 => ?_)
    · refine r_sipush d_Mod_span_29 (by decide) ?_
      refine r_aload_n 0 d_Mod_span_32 rfl rfl ?_
      refine r_getR 173 d_Mod_span_33 fk_Mod_19 rfl rfl rfl (by decide) ?_
      refine r_iload_n 1 d_Mod_span_36 rfl rfl ?_
      refine r_iald 12 d_Mod_span_37 rfl rfl (by omega) (by omega) ?_
      rw [hat.2.2.1]
      refine r_imul d_Mod_span_38 ?_
      refine r_aload_n 0 d_Mod_span_39 rfl rfl ?_
      refine r_getR 174 d_Mod_span_40 fk_Mod_22 rfl rfl rfl (by decide) ?_
      refine r_iload_n 1 d_Mod_span_43 rfl rfl ?_
      refine r_iald 12 d_Mod_span_44 rfl rfl (by omega) (by omega) ?_
      rw [hat.2.2.2.1]
      refine r_iadd d_Mod_span_45 ?_
      refine r_istore_n 3 d_Mod_span_46 rfl (by decide) rfl ?_
      refine r_aload_n 0 d_Mod_span_47 rfl rfl ?_
      refine r_getR 173 d_Mod_span_48 fk_Mod_19 rfl rfl rfl (by decide) ?_
      refine r_iload_n 1 d_Mod_span_51 rfl rfl ?_
      refine r_iload_n 2 d_Mod_span_52 rfl rfl ?_
      refine r_sipush d_Mod_span_53 (by decide) ?_
      refine r_idiv d_Mod_span_56 (by omega) (by omega) ?_
      refine r_iast 12 d_Mod_span_57 rfl rfl (by omega) (by omega) ?_
      refine r_aload_n 0 d_Mod_span_58 rfl rfl ?_
      refine r_getR 174 d_Mod_span_59 fk_Mod_22 rfl rfl rfl (by decide) ?_
      refine r_iload_n 1 d_Mod_span_62 rfl rfl ?_
      refine r_iload_n 2 d_Mod_span_63 rfl rfl ?_
      refine r_sipush d_Mod_span_64 (by decide) ?_
      refine r_irem d_Mod_span_67 (by omega) (by omega) ?_
      refine r_iast 12 d_Mod_span_68 rfl rfl (by omega) (by omega) ?_
      have e : ∀ k i, k ≠ 2 → k ≠ 3 → (wr (wr g.D 2 s (sp / 1000)) 3 s (sp % 1000)) k i = g.D k i := fun k i q r => by rw [wr_ne (Or.inl r), wr_ne (Or.inl q)]
      have hC1 : DR (wr (wr σ 173 s (sp / 1000)) 174 s (sp % 1000)) (wr (wr g.D 2 s (sp / 1000)) 3 s (sp % 1000)) g.ns g.nv := (hC.both (by omega)).both (by omega)
      have hO1 : DOK (wr (wr g.D 2 s (sp / 1000)) 3 s (sp % 1000)) g.ns g.nv := k1.span (by omega)
      have hQ1 : RA (wr (wr σ 173 s (sp / 1000)) 174 s (sp % 1000)) g.P := hQ.keep (fun c i q => by rw [wr_ne (by omega), wr_ne (by omega)])
      refine r_aload_n 0 d_Mod_span_69 rfl rfl ?_
      refine r_cVI 8 d_Mod_span_70 lk_Mod_133 vc_Mod_allFit (mt_allFit hC1 hO1 hQ1 hRV) rfl rfl rfl rfl ⟨Nat.le_of_ble_eq_true rfl, Nat.le_of_ble_eq_true rfl⟩ ⟨Nat.zero_le _, Nat.zero_le _⟩ (Nat.le_of_ble_eq_true rfl) (fun r70 s70 q70 => ?_)
      obtain ⟨qa, qR⟩ := q70
      have hC2 := qR.dr hC1
      have gF : ∀ c i : Int, c ≠ 173 → c ≠ 174 → c ≠ 189 → c ≠ 190 → (c < 192 ∨ 195 < c) → (c ≠ 169 ∨ i < 29 ∨ 32 < i) → s70 c i = σ c i := fun c i q1 q2 q3 q4 q5 q6 => by rw [qR c i q3 q4 q5 q6, wr_ne (by omega), wr_ne (by omega)]
      refine r_if_eq 83 d_Mod_span_73 rfl (by omega) (fun h73 => ?_) (fun h73 => ?_)
      · refine r_aload_n 0 d_Mod_span_83 rfl rfl ?_
        refine r_getR 173 d_Mod_span_84 fk_Mod_19 rfl rfl rfl (by decide) ?_
        refine r_iload_n 1 d_Mod_span_87 rfl rfl ?_
        refine r_iload_n 3 d_Mod_span_88 rfl rfl ?_
        refine r_sipush d_Mod_span_89 (by decide) ?_
        refine r_idiv d_Mod_span_92 (by omega) (by omega) ?_
        refine r_iast 12 d_Mod_span_93 rfl rfl (by omega) (by omega) ?_
        refine r_aload_n 0 d_Mod_span_94 rfl rfl ?_
        refine r_getR 174 d_Mod_span_95 fk_Mod_22 rfl rfl rfl (by decide) ?_
        refine r_iload_n 1 d_Mod_span_98 rfl rfl ?_
        refine r_iload_n 3 d_Mod_span_99 rfl rfl ?_
        refine r_sipush d_Mod_span_100 (by decide) ?_
        refine r_irem d_Mod_span_103 (by omega) (by omega) ?_
        refine r_iast 12 d_Mod_span_104 rfl rfl (by omega) (by omega) ?_
        refine r_aload_n 0 d_Mod_span_105 rfl rfl ?_
        refine r_bipush d_Mod_span_106 (by decide) ?_
        refine r_cVI 8 d_Mod_span_108 lk_Mod_126 vc_Mod_no (mt_no (by omega)) rfl rfl rfl rfl ⟨Nat.le_of_ble_eq_true rfl, Nat.le_of_ble_eq_true rfl⟩ ⟨Nat.zero_le _, Nat.zero_le _⟩ (Nat.le_of_ble_eq_true rfl) (fun r108 s108 q108 => ?_)
        have q := q108
        refine q_iret d_Mod_span_111 rfl ?_
        have ea := (qa.resolve_left (fun z => by omega)).2
        have eb : wr (wr (wr (wr g.D 2 s (sp / 1000)) 3 s (sp % 1000)) 2 s ((1000 * g.D 2 s + g.D 3 s) / 1000)) 3 s ((1000 * g.D 2 s + g.D 3 s) % 1000) = g.D := by
          rw [show (1000 * g.D 2 s + g.D 3 s) / 1000 = g.D 2 s by omega, show (1000 * g.D 2 s + g.D 3 s) % 1000 = g.D 3 s by omega]
          funext k i
          by_cases q : i = s
          · by_cases q2 : k = 3
            · rw [q, q2, wr_eq]
            · rw [wr_ne (Or.inl q2)]
              by_cases q3 : k = 2
              · rw [q, q3, wr_eq]
              · rw [wr_ne (Or.inl q3)]; exact e k i q3 q2
          · rw [wr_ne (Or.inr q), wr_ne (Or.inr q), wr_ne (Or.inr q), wr_ne (Or.inr q)]
        have hC3 := (hC2.both (i := s) (v := (1000 * g.D 2 s + g.D 3 s) / 1000) (c := 173) (k := 2) (by omega)).both (i := s) (v := (1000 * g.D 2 s + g.D 3 s) % 1000) (c := 174) (k := 3) (by omega)
        rw [eb] at hC3
        have hF3 : MF σ _ := fun c i q => (wr_ne (c := 174) (i := s) (v := (1000 * g.D 2 s + g.D 3 s) % 1000) (by omega)).trans ((wr_ne (c := 173) (i := s) (v := (1000 * g.D 2 s + g.D 3 s) / 1000) (by omega)).trans (gF c i (by omega) (by omega) (by omega) (by omega) (by omega) (by omega)))
        exact qn_no (hI.back (fun c i q => by rw [wr_ne (by omega), wr_ne (by omega)]; exact gF c i (by omega) (by omega) (by omega) (by omega) (by omega) (by omega)) hC3) hF3 q (by unfold sp_span; (repeat (first | rw [if_pos (by omega)] | rw [if_neg (by omega)])); (try rfl); unfold renew; rw [ifp_f ea])
      · refine r_aload_n 0 d_Mod_span_76 rfl rfl ?_
        refine r_iconst d_Mod_span_77 ?_
        refine r_putI 20 d_Mod_span_78 fk_Mod_137 rfl rfl rfl (Or.inl rfl) ?_
        refine r_iload_n 3 d_Mod_span_81 rfl rfl ?_
        refine q_iret d_Mod_span_82 rfl ?_
        have ea := (qa.resolve_right (fun z => h73 z.1)).2
        exact qn_eq (rin_data hI (fun c i q => gF c i (by omega) (by omega) (by omega) (by omega) (by omega) (by omega)) hC2) (by unfold sp_span; (repeat (first | rw [if_pos (by omega)] | rw [if_neg (by omega)])); (try rfl); unfold renew; rw [ifp_t ea])
    · refine r_aload_n 0 d_Mod_span_22 rfl rfl ?_
      refine r_bipush d_Mod_span_23 (by decide) ?_
      refine r_cVI 8 d_Mod_span_25 lk_Mod_126 vc_Mod_no (mt_no (by omega)) rfl rfl rfl rfl ⟨Nat.le_of_ble_eq_true rfl, Nat.le_of_ble_eq_true rfl⟩ ⟨Nat.zero_le _, Nat.zero_le _⟩ (Nat.le_of_ble_eq_true rfl) (fun r25 s25 q25 => ?_)
      have q := q25
      refine q_iret d_Mod_span_28 rfl ?_
      exact qn_no hI MF.rf q (by unfold sp_span; (repeat (first | rw [if_pos (by omega)] | rw [if_neg (by omega)])); (try rfl))
  · refine r_aload_n 0 d_Mod_span_8 rfl rfl ?_
    refine r_bipush d_Mod_span_9 (by decide) ?_
    refine r_cVI 8 d_Mod_span_11 lk_Mod_126 vc_Mod_no (mt_no (by omega)) rfl rfl rfl rfl ⟨Nat.le_of_ble_eq_true rfl, Nat.le_of_ble_eq_true rfl⟩ ⟨Nat.zero_le _, Nat.zero_le _⟩ (Nat.le_of_ble_eq_true rfl) (fun r11 s11 q11 => ?_)
    have q := q11
    refine q_iret d_Mod_span_14 rfl ?_
    exact qn_no hI MF.rf q (by unfold sp_span; (repeat (first | rw [if_pos (by omega)] | rw [if_neg (by omega)])); (try rfl))
theorem cr_shift {σ : sto} {g : G} {v sp : Int} (hI : RI σ g) (hk : g.ok) (h_v : inR v) (h_sp : inR sp) : CI M_Mod_shift 14 [vR 169, vI v, vI sp] σ (QM (sp_shift g v sp) σ) := by
  obtain ⟨hQ, hE⟩ := id hI
  obtain ⟨hC, hU, h45, hrow, h33, hrf⟩ := id hE
  obtain ⟨k1, k2, k3, k4, k5, k6⟩ := id hk
  have hn := k1.1
  have hRV := k2.rv hn.1 hn.2.1
  refine ci_of [vR 169, vI v, vI sp, vU] fy_Mod_shift.1 rfl (Nat.le_of_ble_eq_true rfl) ?_
  refine r_aload_n 0 d_Mod_shift_0 rfl rfl ?_
  refine r_iload_n 1 d_Mod_shift_1 rfl rfl ?_
  refine r_cVI 8 d_Mod_shift_2 lk_Mod_165 vc_Mod_isVan (mt_isVan hC.2.1 (by omega) (by omega)) rfl rfl rfl rfl ⟨Nat.le_of_ble_eq_true rfl, Nat.le_of_ble_eq_true rfl⟩ ⟨Nat.zero_le _, Nat.zero_le _⟩ (Nat.le_of_ble_eq_true rfl) (fun r2 s2 q2 => ?_)
  obtain ⟨q2, hs2⟩ := q2
  have hs2 := hs2.symm
  subst hs2
  refine r_if_ne 15 d_Mod_shift_5 rfl (by omega) (fun h5 => ?_) (fun h5 => ?_)
  · have hat := hC.van (v := v) (by omega) (by omega)
    have hds := k1.2.2.2.1 v (by omega) (by omega)
    refine r_iload_n 2 d_Mod_shift_15 rfl rfl ?_
    refine r_cSI d_Mod_shift_16 lk_Mod_153 sc_Mod_isSpan (mt_isSpan (by omega)) rfl rfl ⟨Nat.le_of_ble_eq_true rfl, Nat.le_of_ble_eq_true rfl⟩ ⟨Nat.zero_le _, Nat.zero_le _⟩ (Nat.le_of_ble_eq_true rfl) (fun r16 s16 q16 => ?_)
    obtain ⟨q16, hs16⟩ := q16
    have hs16 := hs16.symm
    subst hs16
    refine r_if_ne 29 d_Mod_shift_19 rfl (by omega) (fun h19 => ?_) (fun h19 => ?_)
    · refine r_sipush d_Mod_shift_29 (by decide) ?_
      refine r_aload_n 0 d_Mod_shift_32 rfl rfl ?_
      refine r_getR 180 d_Mod_shift_33 fk_Mod_40 rfl rfl rfl (by decide) ?_
      refine r_iload_n 1 d_Mod_shift_36 rfl rfl ?_
      refine r_iald 3 d_Mod_shift_37 rfl rfl (by omega) (by omega) ?_
      rw [hat.2.1]
      refine r_imul d_Mod_shift_38 ?_
      refine r_aload_n 0 d_Mod_shift_39 rfl rfl ?_
      refine r_getR 181 d_Mod_shift_40 fk_Mod_43 rfl rfl rfl (by decide) ?_
      refine r_iload_n 1 d_Mod_shift_43 rfl rfl ?_
      refine r_iald 3 d_Mod_shift_44 rfl rfl (by omega) (by omega) ?_
      rw [hat.2.2.1]
      refine r_iadd d_Mod_shift_45 ?_
      refine r_istore_n 3 d_Mod_shift_46 rfl (by decide) rfl ?_
      refine r_aload_n 0 d_Mod_shift_47 rfl rfl ?_
      refine r_getR 180 d_Mod_shift_48 fk_Mod_40 rfl rfl rfl (by decide) ?_
      refine r_iload_n 1 d_Mod_shift_51 rfl rfl ?_
      refine r_iload_n 2 d_Mod_shift_52 rfl rfl ?_
      refine r_sipush d_Mod_shift_53 (by decide) ?_
      refine r_idiv d_Mod_shift_56 (by omega) (by omega) ?_
      refine r_iast 3 d_Mod_shift_57 rfl rfl (by omega) (by omega) ?_
      refine r_aload_n 0 d_Mod_shift_58 rfl rfl ?_
      refine r_getR 181 d_Mod_shift_59 fk_Mod_43 rfl rfl rfl (by decide) ?_
      refine r_iload_n 1 d_Mod_shift_62 rfl rfl ?_
      refine r_iload_n 2 d_Mod_shift_63 rfl rfl ?_
      refine r_sipush d_Mod_shift_64 (by decide) ?_
      refine r_irem d_Mod_shift_67 (by omega) (by omega) ?_
      refine r_iast 3 d_Mod_shift_68 rfl rfl (by omega) (by omega) ?_
      have e : ∀ k i, k ≠ 9 → k ≠ 10 → (wr (wr g.D 9 v (sp / 1000)) 10 v (sp % 1000)) k i = g.D k i := fun k i q r => by rw [wr_ne (Or.inl r), wr_ne (Or.inl q)]
      have hC1 : DR (wr (wr σ 180 v (sp / 1000)) 181 v (sp % 1000)) (wr (wr g.D 9 v (sp / 1000)) 10 v (sp % 1000)) g.ns g.nv := (hC.both (by omega)).both (by omega)
      have hO1 : DOK (wr (wr g.D 9 v (sp / 1000)) 10 v (sp % 1000)) g.ns g.nv := k1.shift (by omega)
      have hQ1 : RA (wr (wr σ 180 v (sp / 1000)) 181 v (sp % 1000)) g.P := hQ.keep (fun c i q => by rw [wr_ne (by omega), wr_ne (by omega)])
      refine r_aload_n 0 d_Mod_shift_69 rfl rfl ?_
      refine r_cVI 8 d_Mod_shift_70 lk_Mod_133 vc_Mod_allFit (mt_allFit hC1 hO1 hQ1 hRV) rfl rfl rfl rfl ⟨Nat.le_of_ble_eq_true rfl, Nat.le_of_ble_eq_true rfl⟩ ⟨Nat.zero_le _, Nat.zero_le _⟩ (Nat.le_of_ble_eq_true rfl) (fun r70 s70 q70 => ?_)
      obtain ⟨qa, qR⟩ := q70
      have hC2 := qR.dr hC1
      have gF : ∀ c i : Int, c ≠ 180 → c ≠ 181 → c ≠ 189 → c ≠ 190 → (c < 192 ∨ 195 < c) → (c ≠ 169 ∨ i < 29 ∨ 32 < i) → s70 c i = σ c i := fun c i q1 q2 q3 q4 q5 q6 => by rw [qR c i q3 q4 q5 q6, wr_ne (by omega), wr_ne (by omega)]
      refine r_if_eq 83 d_Mod_shift_73 rfl (by omega) (fun h73 => ?_) (fun h73 => ?_)
      · refine r_aload_n 0 d_Mod_shift_83 rfl rfl ?_
        refine r_getR 180 d_Mod_shift_84 fk_Mod_40 rfl rfl rfl (by decide) ?_
        refine r_iload_n 1 d_Mod_shift_87 rfl rfl ?_
        refine r_iload_n 3 d_Mod_shift_88 rfl rfl ?_
        refine r_sipush d_Mod_shift_89 (by decide) ?_
        refine r_idiv d_Mod_shift_92 (by omega) (by omega) ?_
        refine r_iast 3 d_Mod_shift_93 rfl rfl (by omega) (by omega) ?_
        refine r_aload_n 0 d_Mod_shift_94 rfl rfl ?_
        refine r_getR 181 d_Mod_shift_95 fk_Mod_43 rfl rfl rfl (by decide) ?_
        refine r_iload_n 1 d_Mod_shift_98 rfl rfl ?_
        refine r_iload_n 3 d_Mod_shift_99 rfl rfl ?_
        refine r_sipush d_Mod_shift_100 (by decide) ?_
        refine r_irem d_Mod_shift_103 (by omega) (by omega) ?_
        refine r_iast 3 d_Mod_shift_104 rfl rfl (by omega) (by omega) ?_
        refine r_aload_n 0 d_Mod_shift_105 rfl rfl ?_
        refine r_bipush d_Mod_shift_106 (by decide) ?_
        refine r_cVI 8 d_Mod_shift_108 lk_Mod_126 vc_Mod_no (mt_no (by omega)) rfl rfl rfl rfl ⟨Nat.le_of_ble_eq_true rfl, Nat.le_of_ble_eq_true rfl⟩ ⟨Nat.zero_le _, Nat.zero_le _⟩ (Nat.le_of_ble_eq_true rfl) (fun r108 s108 q108 => ?_)
        have q := q108
        refine q_iret d_Mod_shift_111 rfl ?_
        have ea := (qa.resolve_left (fun z => by omega)).2
        have eb : wr (wr (wr (wr g.D 9 v (sp / 1000)) 10 v (sp % 1000)) 9 v ((1000 * g.D 9 v + g.D 10 v) / 1000)) 10 v ((1000 * g.D 9 v + g.D 10 v) % 1000) = g.D := by
          rw [show (1000 * g.D 9 v + g.D 10 v) / 1000 = g.D 9 v by omega, show (1000 * g.D 9 v + g.D 10 v) % 1000 = g.D 10 v by omega]
          funext k i
          by_cases q : i = v
          · by_cases q2 : k = 10
            · rw [q, q2, wr_eq]
            · rw [wr_ne (Or.inl q2)]
              by_cases q3 : k = 9
              · rw [q, q3, wr_eq]
              · rw [wr_ne (Or.inl q3)]; exact e k i q3 q2
          · rw [wr_ne (Or.inr q), wr_ne (Or.inr q), wr_ne (Or.inr q), wr_ne (Or.inr q)]
        have hC3 := (hC2.both (i := v) (v := (1000 * g.D 9 v + g.D 10 v) / 1000) (c := 180) (k := 9) (by omega)).both (i := v) (v := (1000 * g.D 9 v + g.D 10 v) % 1000) (c := 181) (k := 10) (by omega)
        rw [eb] at hC3
        have hF3 : MF σ _ := fun c i q => (wr_ne (c := 181) (i := v) (v := (1000 * g.D 9 v + g.D 10 v) % 1000) (by omega)).trans ((wr_ne (c := 180) (i := v) (v := (1000 * g.D 9 v + g.D 10 v) / 1000) (by omega)).trans (gF c i (by omega) (by omega) (by omega) (by omega) (by omega) (by omega)))
        exact qn_no (hI.back (fun c i q => by rw [wr_ne (by omega), wr_ne (by omega)]; exact gF c i (by omega) (by omega) (by omega) (by omega) (by omega) (by omega)) hC3) hF3 q (by unfold sp_shift; (repeat (first | rw [if_pos (by omega)] | rw [if_neg (by omega)])); (try rfl); unfold renew; rw [ifp_f ea])
      · refine r_aload_n 0 d_Mod_shift_76 rfl rfl ?_
        refine r_iconst d_Mod_shift_77 ?_
        refine r_putI 20 d_Mod_shift_78 fk_Mod_137 rfl rfl rfl (Or.inl rfl) ?_
        refine r_iload_n 3 d_Mod_shift_81 rfl rfl ?_
        refine q_iret d_Mod_shift_82 rfl ?_
        have ea := (qa.resolve_right (fun z => h73 z.1)).2
        exact qn_eq (rin_data hI (fun c i q => gF c i (by omega) (by omega) (by omega) (by omega) (by omega) (by omega)) hC2) (by unfold sp_shift; (repeat (first | rw [if_pos (by omega)] | rw [if_neg (by omega)])); (try rfl); unfold renew; rw [ifp_t ea])
    · refine r_aload_n 0 d_Mod_shift_22 rfl rfl ?_
      refine r_bipush d_Mod_shift_23 (by decide) ?_
      refine r_cVI 8 d_Mod_shift_25 lk_Mod_126 vc_Mod_no (mt_no (by omega)) rfl rfl rfl rfl ⟨Nat.le_of_ble_eq_true rfl, Nat.le_of_ble_eq_true rfl⟩ ⟨Nat.zero_le _, Nat.zero_le _⟩ (Nat.le_of_ble_eq_true rfl) (fun r25 s25 q25 => ?_)
      have q := q25
      refine q_iret d_Mod_shift_28 rfl ?_
      exact qn_no hI MF.rf q (by unfold sp_shift; (repeat (first | rw [if_pos (by omega)] | rw [if_neg (by omega)])); (try rfl))
  · refine r_aload_n 0 d_Mod_shift_8 rfl rfl ?_
    refine r_bipush d_Mod_shift_9 (by decide) ?_
    refine r_cVI 8 d_Mod_shift_11 lk_Mod_126 vc_Mod_no (mt_no (by omega)) rfl rfl rfl rfl ⟨Nat.le_of_ble_eq_true rfl, Nat.le_of_ble_eq_true rfl⟩ ⟨Nat.zero_le _, Nat.zero_le _⟩ (Nat.le_of_ble_eq_true rfl) (fun r11 s11 q11 => ?_)
    have q := q11
    refine q_iret d_Mod_shift_14 rfl ?_
    exact qn_no hI MF.rf q (by unfold sp_shift; (repeat (first | rw [if_pos (by omega)] | rw [if_neg (by omega)])); (try rfl))
