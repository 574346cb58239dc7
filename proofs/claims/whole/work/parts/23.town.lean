-- TOWN: the contracts of the class Town (walks written by wip/whole/gen_town.py)
theorem ct_first {a b : Int} {σ : sto} : CI M_Town_first 0 [vR 3, vI a, vI b] σ (fun r σ' => r = (a * 8 + b) * 8 ∧ σ' = σ) := by
  refine ci_of [vR 3, vI a, vI b] fy_Town_first.1 rfl (Nat.le_of_ble_eq_true rfl) ?_
  refine r_iload_n 1 d_Town_first_0 rfl rfl ?_
  refine r_bipush d_Town_first_1 (by decide) ?_
  refine r_imul d_Town_first_3 ?_
  refine r_iload_n 2 d_Town_first_4 rfl rfl ?_
  refine r_iadd d_Town_first_5 ?_
  refine r_bipush d_Town_first_6 (by decide) ?_
  refine r_imul d_Town_first_8 ?_
  refine q_iret d_Town_first_9 rfl ?_
  exact ⟨rfl, rfl⟩
theorem ct_hasStreet {a b : Int} {σ : sto} (a0 : 0 ≤ a) (a1 : a < 8) (b0 : 0 ≤ b) (b1 : b < 8) (hr : inR (σ 4 ((a * 8 + b) * 8))) : CI M_Town_hasStreet 1 [vR 3, vI a, vI b] σ (fun r σ' => r = (if σ 4 ((a * 8 + b) * 8) = 0 then 0 else 1) ∧ σ' = σ) := by
  refine ci_of [vR 3, vI a, vI b] fy_Town_hasStreet.1 rfl (Nat.le_of_ble_eq_true rfl) ?_
  refine r_aload_n 0 d_Town_hasStreet_0 rfl rfl ?_
  refine r_getR 4 d_Town_hasStreet_1 fk_Town_9 rfl rfl rfl (by decide) ?_
  refine r_aload_n 0 d_Town_hasStreet_4 rfl rfl ?_
  refine r_iload_n 1 d_Town_hasStreet_5 rfl rfl ?_
  refine r_iload_n 2 d_Town_hasStreet_6 rfl rfl ?_
  refine r_cVP 4 d_Town_hasStreet_7 lk_Town_31 vc_Town_first ct_first rfl rfl rfl rfl ⟨Nat.le_of_ble_eq_true rfl, Nat.le_of_ble_eq_true rfl⟩ ⟨Nat.zero_le _, Nat.zero_le _⟩ (Nat.le_of_ble_eq_true rfl) ?_
  refine r_iald 512 d_Town_hasStreet_10 rfl rfl (by omega) (by omega) ?_
  refine r_if_eq 18 d_Town_hasStreet_11 rfl (by omega) (fun h11 => ?_) (fun h11 => ?_)
  · refine r_iconst d_Town_hasStreet_18 ?_
    refine q_zret d_Town_hasStreet_19 rfl (by omega) ?_
    first
      | exact ⟨by rw [if_pos h11], rfl⟩
      | exact ⟨by rw [if_neg h11], rfl⟩
  · refine r_iconst d_Town_hasStreet_14 ?_
    refine r_goto 19 d_Town_hasStreet_15 rfl ?_
    refine q_zret d_Town_hasStreet_19 rfl (by omega) ?_
    first
      | exact ⟨by rw [if_pos h11], rfl⟩
      | exact ⟨by rw [if_neg h11], rfl⟩
theorem ct_minutes {a b h : Int} {σ : sto} (a0 : 0 ≤ a) (a1 : a < 8) (b0 : 0 ≤ b) (b1 : b < 8) (h0 : 0 ≤ h) (h1 : h < 8) : CI M_Town_minutes 1 [vR 3, vI a, vI b, vI h] σ (fun r σ' => r = σ 4 ((a * 8 + b) * 8 + h) ∧ σ' = σ) := by
  refine ci_of [vR 3, vI a, vI b, vI h] fy_Town_minutes.1 rfl (Nat.le_of_ble_eq_true rfl) ?_
  refine r_aload_n 0 d_Town_minutes_0 rfl rfl ?_
  refine r_getR 4 d_Town_minutes_1 fk_Town_9 rfl rfl rfl (by decide) ?_
  refine r_aload_n 0 d_Town_minutes_4 rfl rfl ?_
  refine r_iload_n 1 d_Town_minutes_5 rfl rfl ?_
  refine r_iload_n 2 d_Town_minutes_6 rfl rfl ?_
  refine r_cVP 4 d_Town_minutes_7 lk_Town_31 vc_Town_first ct_first rfl rfl rfl rfl ⟨Nat.le_of_ble_eq_true rfl, Nat.le_of_ble_eq_true rfl⟩ ⟨Nat.zero_le _, Nat.zero_le _⟩ (Nat.le_of_ble_eq_true rfl) ?_
  refine r_iload_n 3 d_Town_minutes_10 rfl rfl ?_
  refine r_iadd d_Town_minutes_11 ?_
  refine r_iald 512 d_Town_minutes_12 rfl rfl (by omega) (by omega) ?_
  refine q_iret d_Town_minutes_13 rfl ?_
  exact ⟨rfl, rfl⟩
theorem ct_remember {a b : Int} {σ : sto} (a0 : 0 ≤ a) (a1 : a < 8) (b0 : 0 ≤ b) (b1 : b < 8) : CV M_Town_remember 1 [vR 3, vI a, vI b] σ (fun σ' => (∀ h, 0 ≤ h → h < 8 → σ' 6 h = σ 4 ((a * 8 + b) * 8 + h)) ∧ ∀ c i, c ≠ 6 → σ' c i = σ c i) := by
  refine cv_of [vR 3, vI a, vI b] fy_Town_remember.1 rfl (Nat.le_of_ble_eq_true rfl) ?_
  refine r_aload_n 0 d_Town_remember_0 rfl rfl ?_
  refine r_getR 4 d_Town_remember_1 fk_Town_9 rfl rfl rfl (by decide) ?_
  refine r_aload_n 0 d_Town_remember_4 rfl rfl ?_
  refine r_iload_n 1 d_Town_remember_5 rfl rfl ?_
  refine r_iload_n 2 d_Town_remember_6 rfl rfl ?_
  refine r_cVP 4 d_Town_remember_7 lk_Town_31 vc_Town_first ct_first rfl rfl rfl rfl ⟨Nat.le_of_ble_eq_true rfl, Nat.le_of_ble_eq_true rfl⟩ ⟨Nat.zero_le _, Nat.zero_le _⟩ (Nat.le_of_ble_eq_true rfl) ?_
  refine r_aload_n 0 d_Town_remember_10 rfl rfl ?_
  refine r_getR 6 d_Town_remember_11 fk_Town_18 rfl rfl rfl (by decide) ?_
  refine r_iconst d_Town_remember_14 ?_
  refine r_bipush d_Town_remember_15 (by decide) ?_
  refine r_copy 512 8 d_Town_remember_17 lk_Town_39 rfl rfl rfl rfl (by omega) (by omega) (by omega) (by omega) (by omega) (Nat.le_of_ble_eq_true rfl) (Nat.le_of_ble_eq_true rfl) ?_
  refine q_vret d_Town_remember_20 rfl ?_
  refine ⟨fun h h0 h1 => ?_, fun c i hc => cpy_ne (Or.inl hc)⟩
  rw [cpy_in (by omega) (by omega), show (a * 8 + b) * 8 + (h - 0) = (a * 8 + b) * 8 + h by omega]
/-- what the town keeps beside its streets is right -/
def TC (σ D : sto) (B : Int) : Prop := (1 ≤ σ 3 5 ∧ σ 3 5 ≤ B) ∧
  (∀ a b h : Int, 0 ≤ a → a < 8 → 0 ≤ b → b < 8 → 0 ≤ h → h < 8 → tk D a b h ≠ 0 → σ 5 ((a * 8 + b) * 8 + h) = lat (tk D a b) (h + 1)) ∧
  (∀ s : Int, 0 ≤ s → s < 512 → 0 ≤ σ 8 s ∧ σ 8 s < (σ 3 5 + 1) * 480) ∧
  (∀ a m p : Int, 0 ≤ a → a < 8 → 0 ≤ m → m < 480 → 0 ≤ p → p < 8 → σ 8 (a * 64 + m % 64) = σ 3 5 * 480 + m → σ 7 ((a * 64 + m % 64) * 8 + p) = way D a p m)
theorem way_self {D : sto} {a t : Int} (hS : SOK D) (a0 : 0 ≤ a) (a1 : a < 8) (t0 : 0 ≤ t) (t1 : t ≤ 1000000) : way D a a t = t := by
  have h1 := (way_in hS t0 t1 a0 a1 (a := a)).1
  have h2 := bf_le (D := D) (a := a) (t := t) (Nat.zero_le 7) a
  have h0 : bf D a t 0 a = t := if_pos rfl
  rw [way_def] at *
  omega
theorem way_late {D : sto} {a b t : Int} (hS : SOK D) (a0 : 0 ≤ a) (a1 : a < 8) (b0 : 0 ≤ b) (b1 : b < 8) (hab : a ≠ b) (t0 : 480 ≤ t) (t1 : t ≤ 1000000) : way D a b t = 1000000 := by
  have h : RW D a t (fun p => if p = a then t else 1000000) := by
    refine ⟨by show (if a = a then t else 1000000) ≤ t; rw [if_pos rfl]; omega, fun p p0 p1 => ⟨?_, 0, Int.le_refl _⟩, fun p q p0 p1 q0 q1 => ?_⟩
    · show (if p = a then t else 1000000) ≤ 1000000
      split <;> omega
    · show (if q = a then t else 1000000) ≤ ov D p q (if p = a then t else 1000000)
      have e : ov D p q (if p = a then t else 1000000) = 1000000 := by
        unfold ov
        rw [if_pos]
        left
        split <;> omega
      rw [e]
      split <;> omega
  have := way_of hS a0 a1 (by omega) t1 h b0 b1
  rw [← this]
  exact if_neg (fun e => hab e.symm)
/-- what holds of the comings while the passes go on -/
def WI (D : sto) (a t : Int) (cm : Int → Int) : Prop := cm a ≤ t ∧ ∀ p, 0 ≤ p → p < 8 → cm p ≤ 1000000 ∧ ∃ j, bf D a t j p ≤ cm p
def WF (base : Int) (σ0 σ : sto) : Prop := ∀ c i, (c ≠ 7 ∨ i < base ∨ base + 8 ≤ i) → σ c i = σ0 c i
/-- within pass k: x places are done -/
def WP (D : sto) (a t : Int) (k : Nat) (x so : Int) (cm : Int → Int) : Prop := WI D a t cm ∧ (∀ p, 0 ≤ p → p < 8 → cm p ≤ bf D a t k p) ∧ (∀ y p, 0 ≤ y → y < x → 0 ≤ p → p < 8 → cm p ≤ ov D y p (bf D a t k y)) ∧ (so = 0 ∨ so = 1) ∧ (so = 0 → ∀ y p, 0 ≤ y → y < x → 0 ≤ p → p < 8 → cm p ≤ ov D y p (cm y))
theorem WI.lo {D : sto} {a t : Int} {cm : Int → Int} (h : WI D a t cm) (hS : SOK D) (t0 : 0 ≤ t) (t1 : t ≤ 1000000) {p : Int} (p0 : 0 ≤ p) (p1 : p < 8) : t ≤ cm p ∧ cm p ≤ 1000000 := by
  obtain ⟨h1, j, h2⟩ := h.2 p p0 p1
  have := bf_in (a := a) hS t0 t1 j p p0 p1
  omega
/-- one number becomes less -/
theorem WP.less {D : sto} {a t : Int} {k : Nat} {x so : Int} {cm cm' : Int → Int} (h : WP D a t k x so cm) {y v : Int} (hv : v < cm y) (he : ∃ j, bf D a t j y ≤ v) (hc : ∀ p, cm' p = if p = y then v else cm p) : WP D a t k x 1 cm' := by
  have hle : ∀ p, cm' p ≤ cm p := fun p => by
    rw [hc p]
    split
    · next e => rw [e]; omega
    · exact Int.le_refl _
  refine ⟨⟨Int.le_trans (hle a) h.1.1, fun p p0 p1 => ⟨Int.le_trans (hle p) (h.1.2 p p0 p1).1, ?_⟩⟩, fun p p0 p1 => Int.le_trans (hle p) (h.2.1 p p0 p1), fun y p y0 y1 p0 p1 => Int.le_trans (hle p) (h.2.2.1 y p y0 y1 p0 p1), Or.inr rfl, fun e => by omega⟩
  rw [hc p]
  split
  · next e => rw [e]; exact he
  · exact (h.1.2 p p0 p1).2
theorem li_walk {D σ0 : sto} {a t base : Int} {lev : Nat} (hS : SOK D) (hD : ∀ i, 0 ≤ i → i < 512 → D 12 i = σ0 4 i) (hL : ∀ a b h : Int, 0 ≤ a → a < 8 → 0 ≤ b → b < 8 → 0 ≤ h → h < 8 → tk D a b h ≠ 0 → σ0 5 ((a * 8 + b) * 8 + h) = lat (tk D a b) (h + 1)) (a0 : 0 ≤ a) (a1 : a < 8) (t0 : 0 ≤ t) (t1 : t < 480) (s0 : 0 ≤ base) (s1 : base + 8 ≤ 4096) {k : Nat} {x out : Int} (x0 : 0 ≤ x) (x1 : x < 8) (o0 : 0 ≤ out) (o1 : out < 480) (hx : ∀ σ so, WF base σ0 σ → WP D a t k (x + 1) so (fun p => σ 7 (base + p)) → Run M_Town_walk (rxV (lev + 1) (fun σ' => (∀ p, 0 ≤ p → p < 8 → σ' 7 (base + p) = way D a p t) ∧ ∀ c i, (c ≠ 7 ∨ i < base ∨ base + 8 ≤ i) → σ' c i = σ0 c i)) (0, 0) 190 [vR 3, vI a, vI t, vI base, vI so, vI k, vI x, vU, vU, vU, vU] [] (sg σ)) : ∀ y, 0 ≤ y → y ≤ 8 → ∀ (σ : sto) (so : Int), WF base σ0 σ → WP D a t k x so (fun p => σ 7 (base + p)) → σ 7 (base + x) = out → (∀ z, 0 ≤ z → z < y → σ 7 (base + z) ≤ ov D x z out) → Run M_Town_walk (rxV (lev + 1) (fun σ' => (∀ p, 0 ≤ p → p < 8 → σ' 7 (base + p) = way D a p t) ∧ ∀ c i, (c ≠ 7 ∨ i < base ∨ base + 8 ≤ i) → σ' c i = σ0 c i)) (0, 0) 108 [vR 3, vI a, vI t, vI base, vI so, vI k, vI x, vI out, vI (x * 8 * 8 + out / 60 + y * 8), vI y, vU] [] (sg σ) := by
  refine up_ind (b := 8) ?_ ?_
  · intro σ so hF hP ho hz
    have hP2 : WP D a t k (x + 1) so (fun p => σ 7 (base + p)) := by
      refine ⟨hP.1, hP.2.1, fun y p y0 y1 p0 p1 => ?_, hP.2.2.2.1, fun e y p y0 y1 p0 p1 => ?_⟩
      · by_cases e : y = x
        · rw [e]
          have h1 := hz p p0 p1
          have h2 := hP.2.1 x x0 x1
          have h3 := hP.1.lo hS t0 (by omega) x0 x1
          have h4 : σ 7 (base + x) ≤ bf D a t k x := h2
          exact Int.le_trans h1 (ov_mono hS x0 x1 p0 p1 o0 (by omega))
        · exact hP.2.2.1 y p y0 (by omega) p0 p1
      · by_cases e2 : y = x
        · rw [e2]
          show σ 7 (base + p) ≤ ov D x p (σ 7 (base + x))
          rw [ho]; exact hz p p0 p1
        · exact hP.2.2.2.2 e y p y0 (by omega) p0 p1
    refine r_iload 9 d_Town_walk_108 rfl ?_
    refine r_bipush d_Town_walk_110 (by decide) ?_
    refine r_icmp_ge 190 d_Town_walk_112 rfl (by omega) (by omega) (fun h112 => ?_) (fun h112 => absurd h112 (by omega))
    exact r_drop 7 (r_drop 8 (r_drop 9 (hx σ so hF hP2)))
  · intro y y0 y1 ih σ so hF hP ho hz
    have hb := hP.1.lo hS t0 (by omega) x0 x1
    have hby := hP.1.lo hS t0 (by omega) y0 y1
    have hb1 : t ≤ σ 7 (base + y) ∧ σ 7 (base + y) ≤ 1000000 := hby
    have hq : x * 8 * 8 + out / 60 + y * 8 = (x * 8 + y) * 8 + out / 60 := by omega
    have htk : σ 4 (x * 8 * 8 + out / 60 + y * 8) = tk D x y (out / 60) := by
      rw [hF 4 _ (Or.inl (by omega)), ← hD _ (by omega) (by omega), hq]; rfl
    obtain ⟨-, hsl, hself⟩ := hS x y x0 x1 y0 y1
    have hin : 0 ≤ tk D x y (out / 60) ∧ tk D x y (out / 60) ≤ 99 := by
      rcases hsl with h | h <;> have := h (out / 60) (by omega) (by omega) <;> omega
    have e9 : x * 8 * 8 + out / 60 + y * 8 + 8 = x * 8 * 8 + out / 60 + (y + 1) * 8 := by omega
    refine r_iload 9 d_Town_walk_108 rfl ?_
    refine r_bipush d_Town_walk_110 (by decide) ?_
    refine r_icmp_ge 190 d_Town_walk_112 rfl (by omega) (by omega) (fun h112 => absurd h112 (by omega)) (fun h112 => ?_)
    refine r_aload_n 0 d_Town_walk_115 rfl rfl ?_
    refine r_getR 4 d_Town_walk_116 fk_Town_9 rfl rfl rfl (by decide) ?_
    refine r_iload 8 d_Town_walk_119 rfl ?_
    refine r_iald 512 d_Town_walk_121 rfl rfl (by omega) (by omega) ?_
    refine r_if_ne 128 d_Town_walk_122 rfl (by omega) (fun h122 => ?_) (fun h122 => ?_)
    · rw [htk] at h122
      have hlat : σ 5 (x * 8 * 8 + out / 60 + y * 8) = lat (tk D x y) (out / 60 + 1) := by rw [hF 5 _ (Or.inl (by omega)), hq]; exact hL x y (out / 60) x0 x1 y0 y1 (by omega) (by omega) h122
      have hall : ∀ h, 0 ≤ h → h < 8 → 1 ≤ tk D x y h ∧ tk D x y h ≤ 99 := by
        rcases hsl with h | h
        · exact absurd (h (out / 60) (by omega) (by omega)) h122
        · exact h
      have hl2 := lat_in (f := tk D x y) (fun h g0 g1 => (hall h g0 g1).1) (out / 60 + 1) (by omega) (by omega)
      have hov : ov D x y out = mn (out + tk D x y (out / 60)) (lat (tk D x y) (out / 60 + 1)) := by unfold ov; exact if_neg (by have := hall 0 (by omega) (by omega); omega)
      refine r_iload 7 d_Town_walk_128 rfl ?_
      refine r_aload_n 0 d_Town_walk_130 rfl rfl ?_
      refine r_getR 4 d_Town_walk_131 fk_Town_9 rfl rfl rfl (by decide) ?_
      refine r_iload 8 d_Town_walk_134 rfl ?_
      refine r_iald 512 d_Town_walk_136 rfl rfl (by omega) (by omega) ?_
      refine r_iadd d_Town_walk_137 ?_
      refine r_aload_n 0 d_Town_walk_138 rfl rfl ?_
      refine r_getR 5 d_Town_walk_139 fk_Town_15 rfl rfl rfl (by decide) ?_
      refine r_iload 8 d_Town_walk_142 rfl ?_
      refine r_iald 512 d_Town_walk_144 rfl rfl (by omega) (by omega) ?_
      refine r_min d_Town_walk_145 lk_Town_50 (by omega) (by omega) (Nat.le_of_ble_eq_true rfl) (Nat.le_of_ble_eq_true rfl) ⟨Nat.zero_le _, Nat.zero_le _⟩ ?_
      have ecome : (if σ 5 (x * 8 * 8 + out / 60 + y * 8) < out + σ 4 (x * 8 * 8 + out / 60 + y * 8) then σ 5 (x * 8 * 8 + out / 60 + y * 8) else out + σ 4 (x * 8 * 8 + out / 60 + y * 8)) = ov D x y out := by rw [hov, hlat, htk]; rfl
      rw [ecome]
      have hoi := ov_in hS x0 x1 y0 y1 o0 (by omega) (t := out)
      refine r_istore 10 d_Town_walk_148 (by decide) rfl ?_
      refine r_iload 10 d_Town_walk_150 rfl ?_
      refine r_aload_n 0 d_Town_walk_152 rfl rfl ?_
      refine r_getR 7 d_Town_walk_153 fk_Town_21 rfl rfl rfl (by decide) ?_
      refine r_iload_n 3 d_Town_walk_156 rfl rfl ?_
      refine r_iload 9 d_Town_walk_157 rfl ?_
      refine r_iadd d_Town_walk_159 ?_
      refine r_iald 4096 d_Town_walk_160 rfl rfl (by omega) (by omega) ?_
      refine r_icmp_lt 167 d_Town_walk_161 rfl (by omega) (by omega) (fun h161 => ?_) (fun h161 => ?_)
      · refine r_aload_n 0 d_Town_walk_167 rfl rfl ?_
        refine r_getR 7 d_Town_walk_168 fk_Town_21 rfl rfl rfl (by decide) ?_
        refine r_iload_n 3 d_Town_walk_171 rfl rfl ?_
        refine r_iload 9 d_Town_walk_172 rfl ?_
        refine r_iadd d_Town_walk_174 ?_
        refine r_iload 10 d_Town_walk_175 rfl ?_
        refine r_iast 4096 d_Town_walk_177 rfl rfl (by omega) (by omega) ?_
        refine r_iconst d_Town_walk_178 ?_
        refine r_istore 4 d_Town_walk_179 (by decide) rfl ?_
        refine r_iinc 9 d_Town_walk_181 rfl (by decide) rfl ?_
        refine r_iinc 8 d_Town_walk_184 rfl (by decide) rfl ?_
        refine r_goto 108 d_Town_walk_187 rfl ?_
        rw [← e9] at ih
        first
          | (refine r_drop 10 (ih _ so hF hP ho (fun z z0 z1 => ?_))
             by_cases e : z = y
             · rw [e]; exact h161
             · exact hz z z0 (by omega))
          | (refine ih _ so hF hP ho (fun z z0 z1 => ?_)
             by_cases e : z = y
             · rw [e]
               have h0 : tk D x y 0 = 0 := by
                 rcases hsl with h | h
                 · exact h 0 (by omega) (by omega)
                 · have := h (out / 60) (by omega) (by omega); rw [htk] at h122; omega
               have : ov D x y out = 1000000 := by unfold ov; exact if_pos (Or.inr h0)
               omega
             · exact hz z z0 (by omega))
          | (have hyx : x ≠ y := fun e => h122 (hself e _ (by omega) (by omega))
             refine r_drop 10 (ih _ 1 (fun c i hc => by rw [wr_ne (by omega)]; exact hF c i hc) (hP.less (y := y) (v := ov D x y out) h161 ?_ (fun p => ?_)) (by rw [wr_ne (by omega)]; exact ho) (fun z z0 z1 => ?_))
             · obtain ⟨-, j, hj⟩ := hP.1.2 x x0 x1
               have hj2 : bf D a t j x ≤ out := by rw [← ho]; exact hj
               have hj3 := bf_in (a := a) hS t0 (by omega) j x x0 x1
               exact ⟨j + 1, Int.le_trans (bf_relax j x0 x1) (ov_mono hS x0 x1 y0 y1 (by omega) hj2)⟩
             · by_cases e : p = y
               · rw [if_pos e, e, wr_eq]
               · rw [if_neg e, wr_ne (by omega)]
             · by_cases e : z = y
               · rw [e, wr_eq]; exact Int.le_refl _
               · rw [wr_ne (by omega)]; exact hz z z0 (by omega))
      · refine r_goto 181 d_Town_walk_164 rfl ?_
        refine r_iinc 9 d_Town_walk_181 rfl (by decide) rfl ?_
        refine r_iinc 8 d_Town_walk_184 rfl (by decide) rfl ?_
        refine r_goto 108 d_Town_walk_187 rfl ?_
        rw [← e9] at ih
        first
          | (refine r_drop 10 (ih _ so hF hP ho (fun z z0 z1 => ?_))
             by_cases e : z = y
             · rw [e]; exact h161
             · exact hz z z0 (by omega))
          | (refine ih _ so hF hP ho (fun z z0 z1 => ?_)
             by_cases e : z = y
             · rw [e]
               have h0 : tk D x y 0 = 0 := by
                 rcases hsl with h | h
                 · exact h 0 (by omega) (by omega)
                 · have := h (out / 60) (by omega) (by omega); rw [htk] at h122; omega
               have : ov D x y out = 1000000 := by unfold ov; exact if_pos (Or.inr h0)
               omega
             · exact hz z z0 (by omega))
          | (have hyx : x ≠ y := fun e => h122 (hself e _ (by omega) (by omega))
             refine r_drop 10 (ih _ 1 (fun c i hc => by rw [wr_ne (by omega)]; exact hF c i hc) (hP.less (y := y) (v := ov D x y out) h161 ?_ (fun p => ?_)) (by rw [wr_ne (by omega)]; exact ho) (fun z z0 z1 => ?_))
             · obtain ⟨-, j, hj⟩ := hP.1.2 x x0 x1
               have hj2 : bf D a t j x ≤ out := by rw [← ho]; exact hj
               have hj3 := bf_in (a := a) hS t0 (by omega) j x x0 x1
               exact ⟨j + 1, Int.le_trans (bf_relax j x0 x1) (ov_mono hS x0 x1 y0 y1 (by omega) hj2)⟩
             · by_cases e : p = y
               · rw [if_pos e, e, wr_eq]
               · rw [if_neg e, wr_ne (by omega)]
             · by_cases e : z = y
               · rw [e, wr_eq]; exact Int.le_refl _
               · rw [wr_ne (by omega)]; exact hz z z0 (by omega))
    · refine r_goto 181 d_Town_walk_125 rfl ?_
      refine r_iinc 9 d_Town_walk_181 rfl (by decide) rfl ?_
      refine r_iinc 8 d_Town_walk_184 rfl (by decide) rfl ?_
      refine r_goto 108 d_Town_walk_187 rfl ?_
      rw [← e9] at ih
      first
        | (refine r_drop 10 (ih _ so hF hP ho (fun z z0 z1 => ?_))
           by_cases e : z = y
           · rw [e]; exact h161
           · exact hz z z0 (by omega))
        | (refine ih _ so hF hP ho (fun z z0 z1 => ?_)
           by_cases e : z = y
           · rw [e]
             have h0 : tk D x y 0 = 0 := by
               rcases hsl with h | h
               · exact h 0 (by omega) (by omega)
               · have := h (out / 60) (by omega) (by omega); rw [htk] at h122; omega
             have : ov D x y out = 1000000 := by unfold ov; exact if_pos (Or.inr h0)
             omega
           · exact hz z z0 (by omega))
        | (have hyx : x ≠ y := fun e => h122 (hself e _ (by omega) (by omega))
           refine r_drop 10 (ih _ 1 (fun c i hc => by rw [wr_ne (by omega)]; exact hF c i hc) (hP.less (y := y) (v := ov D x y out) h161 ?_ (fun p => ?_)) (by rw [wr_ne (by omega)]; exact ho) (fun z z0 z1 => ?_))
           · obtain ⟨-, j, hj⟩ := hP.1.2 x x0 x1
             have hj2 : bf D a t j x ≤ out := by rw [← ho]; exact hj
             have hj3 := bf_in (a := a) hS t0 (by omega) j x x0 x1
             exact ⟨j + 1, Int.le_trans (bf_relax j x0 x1) (ov_mono hS x0 x1 y0 y1 (by omega) hj2)⟩
           · by_cases e : p = y
             · rw [if_pos e, e, wr_eq]
             · rw [if_neg e, wr_ne (by omega)]
           · by_cases e : z = y
             · rw [e, wr_eq]; exact Int.le_refl _
             · rw [wr_ne (by omega)]; exact hz z z0 (by omega))
theorem lm_walk {D σ0 : sto} {a t base : Int} {lev : Nat} (hS : SOK D) (hD : ∀ i, 0 ≤ i → i < 512 → D 12 i = σ0 4 i) (hL : ∀ a b h : Int, 0 ≤ a → a < 8 → 0 ≤ b → b < 8 → 0 ≤ h → h < 8 → tk D a b h ≠ 0 → σ0 5 ((a * 8 + b) * 8 + h) = lat (tk D a b) (h + 1)) (a0 : 0 ≤ a) (a1 : a < 8) (t0 : 0 ≤ t) (t1 : t < 480) (s0 : 0 ≤ base) (s1 : base + 8 ≤ 4096) {k : Nat} (hx : ∀ σ so, WF base σ0 σ → WP D a t k 8 so (fun p => σ 7 (base + p)) → Run M_Town_walk (rxV (lev + 1) (fun σ' => (∀ p, 0 ≤ p → p < 8 → σ' 7 (base + p) = way D a p t) ∧ ∀ c i, (c ≠ 7 ∨ i < base ∨ base + 8 ≤ i) → σ' c i = σ0 c i)) (0, 0) 196 [vR 3, vI a, vI t, vI base, vI so, vI k, vU, vU, vU, vU, vU] [] (sg σ)) : ∀ x, 0 ≤ x → x ≤ 8 → ∀ (σ : sto) (so : Int), WF base σ0 σ → WP D a t k x so (fun p => σ 7 (base + p)) → Run M_Town_walk (rxV (lev + 1) (fun σ' => (∀ p, 0 ≤ p → p < 8 → σ' 7 (base + p) = way D a p t) ∧ ∀ c i, (c ≠ 7 ∨ i < base ∨ base + 8 ≤ i) → σ' c i = σ0 c i)) (0, 0) 60 [vR 3, vI a, vI t, vI base, vI so, vI k, vI x, vU, vU, vU, vU] [] (sg σ) := by
  refine up_ind (b := 8) ?_ ?_
  · intro σ so hF hP
    refine r_iload 6 d_Town_walk_60 rfl ?_
    refine r_bipush d_Town_walk_62 (by decide) ?_
    refine r_icmp_ge 196 d_Town_walk_64 rfl (by omega) (by omega) (fun h64 => ?_) (fun h64 => absurd h64 (by omega))
    exact r_drop 6 (hx σ so hF hP)
  · intro x x0 x1 ih σ so hF hP
    have hb := hP.1.lo hS t0 (by omega) x0 x1
    have hb1 : t ≤ σ 7 (base + x) ∧ σ 7 (base + x) ≤ 1000000 := hb
    refine r_iload 6 d_Town_walk_60 rfl ?_
    refine r_bipush d_Town_walk_62 (by decide) ?_
    refine r_icmp_ge 196 d_Town_walk_64 rfl (by omega) (by omega) (fun h64 => absurd h64 (by omega)) (fun h64 => ?_)
    refine r_aload_n 0 d_Town_walk_67 rfl rfl ?_
    refine r_getR 7 d_Town_walk_68 fk_Town_21 rfl rfl rfl (by decide) ?_
    refine r_iload_n 3 d_Town_walk_71 rfl rfl ?_
    refine r_iload 6 d_Town_walk_72 rfl ?_
    refine r_iadd d_Town_walk_74 ?_
    refine r_iald 4096 d_Town_walk_75 rfl rfl (by omega) (by omega) ?_
    refine r_istore 7 d_Town_walk_76 (by decide) rfl ?_
    refine r_iload 7 d_Town_walk_78 rfl ?_
    refine r_sipush d_Town_walk_80 (by decide) ?_
    refine r_icmp_lt 89 d_Town_walk_83 rfl (by omega) (by omega) (fun h83 => ?_) (fun h83 => ?_)
    · refine r_iload 6 d_Town_walk_89 rfl ?_
      refine r_bipush d_Town_walk_91 (by decide) ?_
      refine r_imul d_Town_walk_93 ?_
      refine r_bipush d_Town_walk_94 (by decide) ?_
      refine r_imul d_Town_walk_96 ?_
      refine r_iload 7 d_Town_walk_97 rfl ?_
      refine r_bipush d_Town_walk_99 (by decide) ?_
      refine r_idiv d_Town_walk_101 (by omega) (by omega) ?_
      refine r_iadd d_Town_walk_102 ?_
      refine r_istore 8 d_Town_walk_103 (by decide) rfl ?_
      refine r_iconst d_Town_walk_105 ?_
      refine r_istore 9 d_Town_walk_106 (by decide) rfl ?_
      have e0 : x * 8 * 8 + σ 7 (base + x) / 60 + 0 * 8 = x * 8 * 8 + σ 7 (base + x) / 60 := by omega
      have h := li_walk (lev := lev) hS hD hL a0 a1 t0 t1 s0 s1 x0 x1 (by omega) h83 (fun σ2 so2 hF2 hP2 => ?_) 0 (by omega) (by omega) σ so hF hP rfl (fun z z0 z1 => by omega)
      · rw [e0] at h; exact h
      · skip
        refine r_iinc 6 d_Town_walk_190 rfl (by decide) rfl ?_
        refine r_goto 60 d_Town_walk_193 rfl ?_
        exact ih σ2 so2 hF2 hP2
    · refine r_goto 190 d_Town_walk_86 rfl ?_
      have hfar : ∀ p, ov D x p (σ 7 (base + x)) = 1000000 := fun p => by unfold ov; exact if_pos (Or.inl h83)
      refine r_iinc 6 d_Town_walk_190 rfl (by decide) rfl ?_
      refine r_goto 60 d_Town_walk_193 rfl ?_
      refine r_drop 7 (ih σ so hF ⟨hP.1, hP.2.1, fun y p y0 y1 p0 p1 => ?_, hP.2.2.2.1, fun e y p y0 y1 p0 p1 => ?_⟩)
      · by_cases e : y = x
        · rw [e]
          have h2 : σ 7 (base + x) ≤ bf D a t k x := hP.2.1 x x0 x1
          have : ov D x p (bf D a t k x) = 1000000 := by unfold ov; exact if_pos (Or.inl (by omega))
          rw [this]; exact (hP.1.lo hS t0 (by omega) p0 p1).2
        · exact hP.2.2.1 y p y0 (by omega) p0 p1
      · by_cases e2 : y = x
        · rw [e2]
          show σ 7 (base + p) ≤ ov D x p (σ 7 (base + x))
          rw [hfar]; exact (hP.1.lo hS t0 (by omega) p0 p1).2
        · exact hP.2.2.2.2 e y p y0 (by omega) p0 p1
theorem lo_walk {D σ0 : sto} {a t base : Int} {lev : Nat} (hS : SOK D) (hD : ∀ i, 0 ≤ i → i < 512 → D 12 i = σ0 4 i) (hL : ∀ a b h : Int, 0 ≤ a → a < 8 → 0 ≤ b → b < 8 → 0 ≤ h → h < 8 → tk D a b h ≠ 0 → σ0 5 ((a * 8 + b) * 8 + h) = lat (tk D a b) (h + 1)) (a0 : 0 ≤ a) (a1 : a < 8) (t0 : 0 ≤ t) (t1 : t < 480) (s0 : 0 ≤ base) (s1 : base + 8 ≤ 4096) : ∀ k : Int, 0 ≤ k → k ≤ 8 → ∀ (σ : sto) (so : Int), WF base σ0 σ → WI D a t (fun p => σ 7 (base + p)) → (∀ p, 0 ≤ p → p < 8 → σ 7 (base + p) ≤ bf D a t k.toNat p) → (so = 0 ∨ so = 1) → (so = 0 → ∀ y p, 0 ≤ y → y < 8 → 0 ≤ p → p < 8 → σ 7 (base + p) ≤ ov D y p (σ 7 (base + y))) → Run M_Town_walk (rxV (lev + 1) (fun σ' => (∀ p, 0 ≤ p → p < 8 → σ' 7 (base + p) = way D a p t) ∧ ∀ c i, (c ≠ 7 ∨ i < base ∨ base + 8 ≤ i) → σ' c i = σ0 c i)) (0, 0) 42 [vR 3, vI a, vI t, vI base, vI so, vI k, vU, vU, vU, vU, vU] [] (sg σ) := by
  refine up_ind (b := 8) ?_ ?_
  · intro σ so hF hI hk hso hcl
    have hR : RW D a t (fun p => σ 7 (base + p)) := by
      have e : ∀ p, 0 ≤ p → p < 8 → σ 7 (base + p) = bf D a t 7 p := fun p p0 p1 => by
        obtain ⟨-, j, hj⟩ := hI.2 p p0 p1
        have h1 := bf7 hS a0 a1 t0 (by omega) p p0 p1 j
        have h2 : σ 7 (base + p) ≤ bf D a t 8 p := hk p p0 p1
        have h3 : bf D a t 8 p ≤ bf D a t 7 p := bf_s 7 p
        have h4 : bf D a t j p ≤ σ 7 (base + p) := hj
        omega
      refine ⟨hI.1, hI.2, fun p q p0 p1 q0 q1 => ?_⟩
      show σ 7 (base + q) ≤ ov D p q (σ 7 (base + p))
      rw [e p p0 p1, e q q0 q1]
      exact (RW_bf hS a0 a1 t0 (by omega)).2.2 p q p0 p1 q0 q1
    refine r_iload 5 d_Town_walk_42 rfl ?_
    refine r_bipush d_Town_walk_44 (by decide) ?_
    refine r_icmp_ge 202 d_Town_walk_46 rfl (by omega) (by omega) (fun h46 => ?_) (fun h46 => absurd h46 (by omega))
    refine q_vret d_Town_walk_202 rfl ?_
    exact ⟨fun p p0 p1 => way_of (d := fun p => σ 7 (base + p)) hS a0 a1 t0 (by omega) hR p0 p1, hF⟩
  · intro k k0 k1 ih σ so hF hI hk hso hcl
    refine r_iload 5 d_Town_walk_42 rfl ?_
    refine r_bipush d_Town_walk_44 (by decide) ?_
    refine r_icmp_ge 202 d_Town_walk_46 rfl (by omega) (by omega) (fun h46 => absurd h46 (by omega)) (fun h46 => ?_)
    refine r_iload 4 d_Town_walk_49 rfl ?_
    refine r_if_eq 202 d_Town_walk_51 rfl (by omega) (fun h51 => ?_) (fun h51 => ?_)
    · refine q_vret d_Town_walk_202 rfl ?_
      exact ⟨fun p p0 p1 => way_of (d := fun p => σ 7 (base + p)) hS a0 a1 t0 (by omega) ⟨hI.1, hI.2, fun p q p0 p1 q0 q1 => hcl h51 p q p0 p1 q0 q1⟩ p0 p1, hF⟩
    · refine r_iconst d_Town_walk_54 ?_
      refine r_istore 4 d_Town_walk_55 (by decide) rfl ?_
      refine r_iconst d_Town_walk_57 ?_
      refine r_istore 6 d_Town_walk_58 (by decide) rfl ?_
      have hkk : ((k.toNat : Nat) : Int) = k := by omega
      have h := lm_walk (lev := lev) (k := k.toNat) hS hD hL a0 a1 t0 t1 s0 s1 (fun σ2 so2 hF2 hP2 => ?_) 0 (by omega) (by omega) σ 0 hF ⟨hI, hk, fun y p y0 y1 p0 p1 => by omega, Or.inl rfl, fun _ y p y0 y1 p0 p1 => by omega⟩
      · rw [hkk] at h; exact h
      · rw [hkk]
        refine r_iinc 5 d_Town_walk_196 rfl (by decide) rfl ?_
        refine r_goto 42 d_Town_walk_199 rfl ?_
        refine ih σ2 so2 hF2 hP2.1 (fun p p0 p1 => ?_) hP2.2.2.2.1 hP2.2.2.2.2
        rw [show (k + 1).toNat = k.toNat + 1 by omega]
        rcases mnN_is (fun q => ov D q p (bf D a t k.toNat q)) (bf D a t k.toNat p) 8 with e | ⟨q, hq, e⟩
        · show _ ≤ mnN _ _ 8; rw [e]; exact hP2.2.1 p p0 p1
        · show _ ≤ mnN _ _ 8; rw [e]; exact hP2.2.2.1 q p (by omega) (by omega) p0 p1
theorem ct_walk {D σ0 : sto} {a t base : Int} (hS : SOK D) (hD : ∀ i, 0 ≤ i → i < 512 → D 12 i = σ0 4 i) (hL : ∀ a b h : Int, 0 ≤ a → a < 8 → 0 ≤ b → b < 8 → 0 ≤ h → h < 8 → tk D a b h ≠ 0 → σ0 5 ((a * 8 + b) * 8 + h) = lat (tk D a b) (h + 1)) (a0 : 0 ≤ a) (a1 : a < 8) (t0 : 0 ≤ t) (t1 : t < 480) (s0 : 0 ≤ base) (s1 : base + 8 ≤ 4096) : CV M_Town_walk 1 [vR 3, vI a, vI t, vI base] σ0 (fun σ' => (∀ p, 0 ≤ p → p < 8 → σ' 7 (base + p) = way D a p t) ∧ ∀ c i, (c ≠ 7 ∨ i < base ∨ base + 8 ≤ i) → σ' c i = σ0 c i) := by
  refine cv_of [vR 3, vI a, vI t, vI base, vU, vU, vU, vU, vU, vU, vU] fy_Town_walk.1 rfl (Nat.le_of_ble_eq_true rfl) ?_
  refine r_iconst d_Town_walk_0 ?_
  refine r_istore 4 d_Town_walk_1 (by decide) rfl ?_
  have key : ∀ x, 0 ≤ x → x ≤ 8 → ∀ σ : sto, WF base σ0 σ → (∀ p, 0 ≤ p → p < x → σ 7 (base + p) = 1000000) → Run M_Town_walk (rxV 1 (fun σ' => (∀ p, 0 ≤ p → p < 8 → σ' 7 (base + p) = way D a p t) ∧ ∀ c i, (c ≠ 7 ∨ i < base ∨ base + 8 ≤ i) → σ' c i = σ0 c i)) (0, 0) 3 [vR 3, vI a, vI t, vI base, vI x, vU, vU, vU, vU, vU, vU] [] (sg σ) := by
    refine up_ind (b := 8) ?_ ?_
    · intro σ hF hp
      refine r_iload 4 d_Town_walk_3 rfl ?_
      refine r_bipush d_Town_walk_5 (by decide) ?_
      refine r_icmp_ge 27 d_Town_walk_7 rfl (by omega) (by omega) (fun h7 => ?_) (fun h7 => absurd h7 (by omega))
      refine r_aload_n 0 d_Town_walk_27 rfl rfl ?_
      refine r_getR 7 d_Town_walk_28 fk_Town_21 rfl rfl rfl (by decide) ?_
      refine r_iload_n 3 d_Town_walk_31 rfl rfl ?_
      refine r_iload_n 1 d_Town_walk_32 rfl rfl ?_
      refine r_iadd d_Town_walk_33 ?_
      refine r_iload_n 2 d_Town_walk_34 rfl rfl ?_
      refine r_iast 4096 d_Town_walk_35 rfl rfl (by omega) (by omega) ?_
      refine r_iconst d_Town_walk_36 ?_
      refine r_istore 4 d_Town_walk_37 (by decide) rfl ?_
      refine r_iconst d_Town_walk_39 ?_
      refine r_istore 5 d_Town_walk_40 (by decide) rfl ?_
      have hv : ∀ p, 0 ≤ p → p < 8 → wr σ 7 (base + a) t 7 (base + p) = if p = a then t else 1000000 := fun p p0 p1 => by
        by_cases e : p = a
        · rw [if_pos e, e, wr_eq]
        · rw [if_neg e, wr_ne (by omega)]; exact hp p p0 p1
      refine lo_walk (lev := 0) hS hD hL a0 a1 t0 t1 s0 s1 0 (by omega) (by omega) _ 1 (fun c i hc => by rw [wr_ne (by omega)]; exact hF c i hc) ⟨?_, fun p p0 p1 => ⟨?_, 0, ?_⟩⟩ (fun p p0 p1 => ?_) (Or.inr rfl) (fun e => by omega)
      · show wr σ 7 (base + a) t 7 (base + a) ≤ t; rw [wr_eq]; omega
      · show wr σ 7 (base + a) t 7 (base + p) ≤ 1000000; rw [hv p p0 p1]; split <;> omega
      · show (if p = a then t else 1000000) ≤ wr σ 7 (base + a) t 7 (base + p); rw [hv p p0 p1]; omega
      · show wr σ 7 (base + a) t 7 (base + p) ≤ (if p = a then t else 1000000); rw [hv p p0 p1]; omega
    · intro x x0 x1 ih σ hF hp
      refine r_iload 4 d_Town_walk_3 rfl ?_
      refine r_bipush d_Town_walk_5 (by decide) ?_
      refine r_icmp_ge 27 d_Town_walk_7 rfl (by omega) (by omega) (fun h7 => absurd h7 (by omega)) (fun h7 => ?_)
      refine r_aload_n 0 d_Town_walk_10 rfl rfl ?_
      refine r_getR 7 d_Town_walk_11 fk_Town_21 rfl rfl rfl (by decide) ?_
      refine r_iload_n 3 d_Town_walk_14 rfl rfl ?_
      refine r_iload 4 d_Town_walk_15 rfl ?_
      refine r_iadd d_Town_walk_17 ?_
      refine r_ldc kc_Town_45 d_Town_walk_18 ?_
      refine r_iast 4096 d_Town_walk_20 rfl rfl (by omega) (by omega) ?_
      refine r_iinc 4 d_Town_walk_21 rfl (by decide) rfl ?_
      refine r_goto 3 d_Town_walk_24 rfl ?_
      refine ih _ (fun c i hc => by rw [wr_ne (by omega)]; exact hF c i hc) (fun p p0 p1 => ?_)
      by_cases e : p = x
      · rw [e, wr_eq]
      · rw [wr_ne (by omega)]; exact hp p p0 (by omega)
  exact key 0 (by omega) (by omega) σ0 (fun _ _ _ => rfl) (fun p p0 p1 => by omega)
theorem ct_comes {D σ : sto} {a b t B : Int} (hS : SOK D) (hD : ∀ i, 0 ≤ i → i < 512 → D 12 i = σ 4 i) (hT : TC σ D B) (hB : B ≤ 4000) (a0 : 0 ≤ a) (a1 : a < 8) (b0 : 0 ≤ b) (b1 : b < 8) (t0 : 0 ≤ t) (t1 : t < 1000000) : CI M_Town_comes 2 [vR 3, vI a, vI b, vI t] σ (fun r σ' => r = way D a b t ∧ TC σ' D B ∧ ∀ c i, c ≠ 7 → c ≠ 8 → σ' c i = σ c i) := by
  obtain ⟨⟨g0, g1⟩, hL, hlb, hc⟩ := id hT
  refine ci_of [vR 3, vI a, vI b, vI t, vU, vU] fy_Town_comes.1 rfl (Nat.le_of_ble_eq_true rfl) ?_
  refine r_iload_n 1 d_Town_comes_0 rfl rfl ?_
  refine r_iload_n 2 d_Town_comes_1 rfl rfl ?_
  refine r_icmp_ne 7 d_Town_comes_2 rfl (by omega) (by omega) (fun h2 => ?_) (fun h2 => ?_)
  · refine r_iload_n 3 d_Town_comes_7 rfl rfl ?_
    refine r_sipush d_Town_comes_8 (by decide) ?_
    refine r_icmp_lt 17 d_Town_comes_11 rfl (by omega) (by omega) (fun h11 => ?_) (fun h11 => ?_)
    · have hlab := hlb (a * 64 + t % 64) (by omega) (by omega)
      refine r_iload_n 1 d_Town_comes_17 rfl rfl ?_
      refine r_bipush d_Town_comes_18 (by decide) ?_
      refine r_imul d_Town_comes_20 ?_
      refine r_iload_n 3 d_Town_comes_21 rfl rfl ?_
      refine r_bipush d_Town_comes_22 (by decide) ?_
      refine r_irem d_Town_comes_24 (by omega) (by omega) ?_
      refine r_iadd d_Town_comes_25 ?_
      refine r_istore 4 d_Town_comes_26 (by decide) rfl ?_
      refine r_aload_n 0 d_Town_comes_28 rfl rfl ?_
      refine r_getI 5 d_Town_comes_29 fk_Town_27 rfl rfl rfl ?_
      refine r_sipush d_Town_comes_32 (by decide) ?_
      refine r_imul d_Town_comes_35 ?_
      refine r_iload_n 3 d_Town_comes_36 rfl rfl ?_
      refine r_iadd d_Town_comes_37 ?_
      refine r_istore 5 d_Town_comes_38 (by decide) rfl ?_
      refine r_aload_n 0 d_Town_comes_40 rfl rfl ?_
      refine r_getR 8 d_Town_comes_41 fk_Town_24 rfl rfl rfl (by decide) ?_
      refine r_iload 4 d_Town_comes_44 rfl ?_
      refine r_iald 512 d_Town_comes_46 rfl rfl (by omega) (by omega) ?_
      refine r_iload 5 d_Town_comes_47 rfl ?_
      refine r_icmp_eq 72 d_Town_comes_49 rfl (by omega) (by omega) (fun h49 => ?_) (fun h49 => ?_)
      · refine r_aload_n 0 d_Town_comes_72 rfl rfl ?_
        refine r_getR 7 d_Town_comes_73 fk_Town_21 rfl rfl rfl (by decide) ?_
        refine r_iload 4 d_Town_comes_76 rfl ?_
        refine r_bipush d_Town_comes_78 (by decide) ?_
        refine r_imul d_Town_comes_80 ?_
        refine r_iload_n 2 d_Town_comes_81 rfl rfl ?_
        refine r_iadd d_Town_comes_82 ?_
        refine r_iald 4096 d_Town_comes_83 rfl rfl (by omega) (by omega) ?_
        refine q_iret d_Town_comes_84 rfl ?_
        first
          | exact ⟨hc a t b a0 a1 t0 (by omega) b0 b1 h49, hT, fun _ _ _ _ => rfl⟩
          | (refine ⟨?_, ⟨⟨?_, ?_⟩, ?_, ?_, ?_⟩, ?_⟩
             · rw [wr_ne (by omega)]; exact hw b b0 b1
             · rw [wr_ne (by omega), hF 3 5 (by omega)]; exact g0
             · rw [wr_ne (by omega), hF 3 5 (by omega)]; exact g1
             · intro x y h x0 x1 y0 y1 h0 h1 hne
               rw [wr_ne (by omega), hF 5 _ (by omega)]; exact hL x y h x0 x1 y0 y1 h0 h1 hne
             · intro s z0 z1
               rw [wr_ne (c' := 3) (by omega), hF 3 5 (by omega)]
               by_cases e : s = a * 64 + t % 64
               · rw [e, wr_eq]; omega
               · rw [wr_ne (by omega), hF 8 _ (by omega)]; exact hlb s z0 z1
             · intro x n p x0 x1 n0 n1 p0 p1 hlab2
               rw [wr_ne (c' := 3) (by omega), hF 3 5 (by omega)] at hlab2
               rw [wr_ne (by omega)]
               by_cases e : x * 64 + n % 64 = a * 64 + t % 64
               · rw [e, wr_eq] at hlab2
                 have e1 : n = t := by omega
                 have e2 : x = a := by omega
                 rw [e1, e2]; exact hw p p0 p1
               · rw [wr_ne (by omega), hF 8 _ (by omega)] at hlab2
                 rw [hF 7 _ (by omega)]
                 exact hc x n p x0 x1 n0 n1 p0 p1 hlab2
             · intro c i h7 h8
               rw [wr_ne (by omega), hF c i (by omega)])
      · refine r_aload_n 0 d_Town_comes_52 rfl rfl ?_
        refine r_iload_n 1 d_Town_comes_53 rfl rfl ?_
        refine r_iload_n 3 d_Town_comes_54 rfl rfl ?_
        refine r_iload 4 d_Town_comes_55 rfl ?_
        refine r_bipush d_Town_comes_57 (by decide) ?_
        refine r_imul d_Town_comes_59 ?_
        refine r_cVV 4 d_Town_comes_60 lk_Town_55 vc_Town_walk (ct_walk (base := (a * 64 + t % 64) * 8) hS hD hL a0 a1 t0 (by omega) (by omega) (by omega)) rfl rfl rfl rfl ⟨Nat.le_of_ble_eq_true rfl, Nat.le_of_ble_eq_true rfl⟩ ⟨Nat.zero_le _, Nat.zero_le _⟩ (Nat.le_of_ble_eq_true rfl) (fun s60 q60 => ?_)
        obtain ⟨hw, hF⟩ := q60
        refine r_aload_n 0 d_Town_comes_63 rfl rfl ?_
        refine r_getR 8 d_Town_comes_64 fk_Town_24 rfl rfl rfl (by decide) ?_
        refine r_iload 4 d_Town_comes_67 rfl ?_
        refine r_iload 5 d_Town_comes_69 rfl ?_
        refine r_iast 512 d_Town_comes_71 rfl rfl (by omega) (by omega) ?_
        refine r_aload_n 0 d_Town_comes_72 rfl rfl ?_
        refine r_getR 7 d_Town_comes_73 fk_Town_21 rfl rfl rfl (by decide) ?_
        refine r_iload 4 d_Town_comes_76 rfl ?_
        refine r_bipush d_Town_comes_78 (by decide) ?_
        refine r_imul d_Town_comes_80 ?_
        refine r_iload_n 2 d_Town_comes_81 rfl rfl ?_
        refine r_iadd d_Town_comes_82 ?_
        refine r_iald 4096 d_Town_comes_83 rfl rfl (by omega) (by omega) ?_
        refine q_iret d_Town_comes_84 rfl ?_
        first
          | exact ⟨hc a t b a0 a1 t0 (by omega) b0 b1 h49, hT, fun _ _ _ _ => rfl⟩
          | (refine ⟨?_, ⟨⟨?_, ?_⟩, ?_, ?_, ?_⟩, ?_⟩
             · rw [wr_ne (by omega)]; exact hw b b0 b1
             · rw [wr_ne (by omega), hF 3 5 (by omega)]; exact g0
             · rw [wr_ne (by omega), hF 3 5 (by omega)]; exact g1
             · intro x y h x0 x1 y0 y1 h0 h1 hne
               rw [wr_ne (by omega), hF 5 _ (by omega)]; exact hL x y h x0 x1 y0 y1 h0 h1 hne
             · intro s z0 z1
               rw [wr_ne (c' := 3) (by omega), hF 3 5 (by omega)]
               by_cases e : s = a * 64 + t % 64
               · rw [e, wr_eq]; omega
               · rw [wr_ne (by omega), hF 8 _ (by omega)]; exact hlb s z0 z1
             · intro x n p x0 x1 n0 n1 p0 p1 hlab2
               rw [wr_ne (c' := 3) (by omega), hF 3 5 (by omega)] at hlab2
               rw [wr_ne (by omega)]
               by_cases e : x * 64 + n % 64 = a * 64 + t % 64
               · rw [e, wr_eq] at hlab2
                 have e1 : n = t := by omega
                 have e2 : x = a := by omega
                 rw [e1, e2]; exact hw p p0 p1
               · rw [wr_ne (by omega), hF 8 _ (by omega)] at hlab2
                 rw [hF 7 _ (by omega)]
                 exact hc x n p x0 x1 n0 n1 p0 p1 hlab2
             · intro c i h7 h8
               rw [wr_ne (by omega), hF c i (by omega)])
    · refine r_ldc kc_Town_45 d_Town_comes_14 ?_
      refine q_iret d_Town_comes_16 rfl ?_
      exact ⟨(way_late hS a0 a1 b0 b1 h2 h11 (by omega)).symm, hT, fun _ _ _ _ => rfl⟩
  · refine r_iload_n 3 d_Town_comes_5 rfl rfl ?_
    refine q_iret d_Town_comes_6 rfl ?_
    exact ⟨by rw [← h2]; exact (way_self hS a0 a1 t0 (by omega)).symm, hT, fun _ _ _ _ => rfl⟩
