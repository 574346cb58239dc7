-- THE REFERENCE: goes, fits, costs (walks written by wip/whole/gen_go2.py)
theorem way_sm {D : sto} {a b t : Int} (hS : SOK D) (t0 : 0 ≤ t) (t1 : t ≤ 1000000) (b0 : 0 ≤ b) (b1 : b < 8) : way D a b t = t ∨ way D a b t < 600 ∨ way D a b t = 1000000 := by
  rw [way_def]
  rcases bf_trace (D := D) (a := a) (t := t) 7 b with h | ⟨i, q, q1, -, h⟩
  · have h0 : bf D a t 0 b = if b = a then t else 1000000 := rfl
    rw [h, h0]
    by_cases e : b = a
    · rw [if_pos e]; exact Or.inl rfl
    · rw [if_neg e]; exact Or.inr (Or.inr rfl)
  · rw [h]
    have hb := bf_in (a := a) hS t0 t1 i q (by omega) (by omega)
    by_cases e : bf D a t i q < 480
    · rcases (ov_in hS (show (0 : Int) ≤ q by omega) (show (q : Int) < 8 by omega) b0 b1 (show 0 ≤ bf D a t i q by omega) (by omega)).2.2 with z | z
      · exact Or.inr (Or.inr z)
      · exact Or.inr (Or.inl z)
    · exact Or.inr (Or.inr (ov_hi (by omega)))
theorem mtb {D : sto} {ns nv v : Int} {l : List Int} (hO : DOK D ns nv) (hl : RV ns l) (v0 : 0 ≤ v) (v1 : v < nv) : ∀ n : Nat, (n : Int) ≤ ln l → (∀ j, 0 ≤ j → j < (n : Int) → cm D v l j < 1000000) → 0 ≤ mt D v l n ∧ mt D v l n ≤ 700 + 60 * n := by
  intro n
  have hdv := hO.2.2.2.1 v v0 v1
  have hl12 := hl.1
  induction n with
  | zero => intro _ _; show 0 ≤ D 9 v ∧ D 9 v ≤ 700 + 60 * ((0 : Nat) : Int); omega
  | succ n ih =>
    intro hn h
    have h1 := ih (by omega) (fun j j0 j1 => h j j0 (by omega))
    have h2 := h n (by omega) (by omega)
    have hrr := hl.2 n (by omega) (by omega)
    have hd := hO.2.1 _ hrr.1 hrr.2
    have h3 := way_sm (a := hr D l n) (b := D 1 (gt l n)) hO.2.2.2.2 h1.1 (by omega) (by omega) (by omega)
    have h4 := way_in (a := hr D l n) (b := D 1 (gt l n)) hO.2.2.2.2 h1.1 (by omega) (by omega) (by omega)
    have h5 : cm D v l n = way D (hr D l n) (D 1 (gt l n)) (mt D v l n) := rfl
    rw [show (((n + 1 : Nat)) : Int) = (n : Int) + 1 by omega, mt_s (by omega)]
    unfold bg mx
    split <;> omega
theorem mt_b {D : sto} {ns nv v : Int} {l : List Int} (hO : DOK D ns nv) (hl : RV ns l) (v0 : 0 ≤ v) (v1 : v < nv) {i : Int} (i0 : 0 ≤ i) (i1 : i ≤ ln l) (h : ∀ j, 0 ≤ j → j < i → cm D v l j < 1000000) : 0 ≤ mt D v l i ∧ mt D v l i ≤ 2000 := by
  have := mtb hO hl v0 v1 i.toNat (by omega) (fun j j0 j1 => h j j0 (by omega))
  have hl12 := hl.1
  rw [show ((i.toNat : Nat) : Int) = i by omega] at this
  omega
theorem FI.more {p : Int → Bool} {r y0 w0 i y x k : Int} (h : FI p r y0 w0 i y x) (hy : y ≠ 0) (hk : i ≤ k) : FI p r y0 w0 k y x := by
  rcases h with h | h | ⟨a, b, c, d, e⟩
  · exact Or.inl h
  · exact absurd h.2.1 hy
  · exact Or.inr (Or.inr ⟨a, b, by omega, d, e⟩)
theorem FI.ne {p : Int → Bool} {r y0 w0 i y x : Int} (h : FI p r y0 w0 (i + 1) y x) (i0 : 0 ≤ i) (hp : p i = true) (hr : r ≠ 0) : y ≠ 0 := by
  rcases h with h | ⟨a, b, c, d⟩ | ⟨a, b, c, d, e⟩
  · omega
  · have := d i i0 (by omega); rw [hp] at this; cases this
  · omega
/-- what the way of a round tells, when it fits -/
def RN (D : sto) (v : Int) (l : List Int) (σ : sto) : Prop := σ 169 32 = cst D v l ∧ (0 < ln l → σ 169 29 = bk D v l ∧ ∀ i, 0 ≤ i → i < ln l → σ 192 i = cm D v l i ∧ σ 193 i = bg D v l i ∧ σ 194 i = mt D v l (i + 1) ∧ σ 195 i = lda D l (i + 1))
/-- what a look at a round leaves as it is -/
def RF (σ σ' : sto) : Prop := ∀ c i : Int, c ≠ 189 → c ≠ 190 → (c < 192 ∨ 195 < c) → (c ≠ 169 ∨ i < 29 ∨ 32 < i) → σ' c i = σ c i
theorem RF.rf {σ : sto} : RF σ σ := fun _ _ _ _ _ _ => rfl
theorem RF.tr {σ σ' σ'' : sto} (h : RF σ σ') (g : RF σ' σ'') : RF σ σ'' := fun c i a b c2 d => (g c i a b c2 d).trans (h c i a b c2 d)
theorem RF.dr {σ σ' D : sto} {ns nv : Int} (h : RF σ σ') (hC : DR σ D ns nv) : DR σ' D ns nv := hC.keep (fun c i q => h c i (by omega) (by omega) (by omega) (by omega))
theorem RF.ra {σ σ' : sto} {P : pln} (h : RF σ σ') (hC : RA σ P) : RA σ' P := hC.keep (fun c i q => h c i (by omega) (by omega) (by omega) (by omega))
theorem mt_goes {σ D : sto} {ns nv v : Int} {P : pln} (hC : DR σ D ns nv) (hO : DOK D ns nv) (hQ : RA σ P) (v0 : 0 ≤ v) (v1 : v < nv) (hl : RV ns (P v)) {y0 x0 : Int} (hw : WY σ y0 x0) (hy0 : 0 ≤ y0 ∧ y0 ≤ 4) : CV M_Mod_goes 3 [vR 169, vI v] σ (fun σ' => (∃ y1 x1, FI (pr3 D v (P v)) 3 y0 x0 (ln (P v)) y1 x1 ∧ (y1 ≠ 0 ∧ WY σ' y1 x1 ∨ y1 = 0 ∧ D 10 v < bk D v (P v) ∧ WY σ' 4 (ln (P v)) ∨ y1 = 0 ∧ bk D v (P v) ≤ D 10 v ∧ WY σ' 0 x1 ∧ σ' 169 29 = bk D v (P v) ∧ σ' 169 32 = ex D v (P v) (ln (P v)) + (bk D v (P v) - D 9 v + D 11 v) ∧ (∀ j, 0 ≤ j → j < ln (P v) → σ' 192 j = cm D v (P v) j ∧ σ' 193 j = bg D v (P v) j ∧ σ' 194 j = mt D v (P v) (j + 1)))) ∧ (∀ c i : Int, c ≠ 189 → c ≠ 190 → (c < 192 ∨ 194 < c) → (c ≠ 169 ∨ i < 29 ∨ 32 < i) → σ' c i = σ c i)) := by
  have hn := hO.1
  have hl0 := ln0 (P v)
  have hl12 := hl.1
  have hvan := hC.van v0 (show v < 3 by omega)
  have hdv := hO.2.2.2.1 v v0 v1
  have key : ∀ i, 0 ≤ i → i ≤ ln (P v) → ∀ (σ1 : sto) (y x : Int), WY σ1 y x → FI (pr3 D v (P v)) 3 y0 x0 i y x → (∀ j, 0 ≤ j → j < i → cm D v (P v) j < 1000000) → σ1 169 32 = D 11 v - D 9 v + ex D v (P v) i → (∀ j, 0 ≤ j → j < i → σ1 192 j = cm D v (P v) j ∧ σ1 193 j = bg D v (P v) j ∧ σ1 194 j = mt D v (P v) (j + 1)) → (∀ c i : Int, c ≠ 189 → c ≠ 190 → (c < 192 ∨ 194 < c) → (c ≠ 169 ∨ i < 29 ∨ 32 < i) → σ1 c i = σ c i) → Run M_Mod_goes (rxV 3 (fun σ' => (∃ y1 x1, FI (pr3 D v (P v)) 3 y0 x0 (ln (P v)) y1 x1 ∧ (y1 ≠ 0 ∧ WY σ' y1 x1 ∨ y1 = 0 ∧ D 10 v < bk D v (P v) ∧ WY σ' 4 (ln (P v)) ∨ y1 = 0 ∧ bk D v (P v) ≤ D 10 v ∧ WY σ' 0 x1 ∧ σ' 169 29 = bk D v (P v) ∧ σ' 169 32 = ex D v (P v) (ln (P v)) + (bk D v (P v) - D 9 v + D 11 v) ∧ (∀ j, 0 ≤ j → j < ln (P v) → σ' 192 j = cm D v (P v) j ∧ σ' 193 j = bg D v (P v) j ∧ σ' 194 j = mt D v (P v) (j + 1)))) ∧ (∀ c i : Int, c ≠ 189 → c ≠ 190 → (c < 192 ∨ 194 < c) → (c ≠ 169 ∨ i < 29 ∨ 32 < i) → σ' c i = σ c i))) (0, 0) 24 [vR 169, vI v, vI (hr D (P v) i), vI (mt D v (P v) i), vI i, vU, vU] [] (sg σ1) := by
    refine up_ind (b := ln (P v)) ?_ ?_
    · intro σ1 y x hw1 hf1 hc hx hv hF
      have hC1 := hC.keep (σ' := σ1) (fun c i q => hF c i (by omega) (by omega) (by omega) (by omega))
      have hz := (hQ.keep (σ' := σ1) (fun c i q => hF c i (by omega) (by omega) (by omega) (by omega))).len v0 (show v < 3 by omega)
      have hmt := mt_b hO hl v0 v1 hl0 (Int.le_refl _) hc
      have hh := hr_in hO hl hl0 (Int.le_refl _)
      have hbk := way_in (a := hr D (P v) (ln (P v))) (b := 0) hO.2.2.2.2 hmt.1 (by omega) (by omega) (by omega)
      have hbe : bk D v (P v) = way D (hr D (P v) (ln (P v))) 0 (mt D v (P v) (ln (P v))) := rfl
      rw [← hbe] at hbk
      have hyr := hf1.yr (by omega) (by omega)
      refine r_iload 4 d_Mod_goes_24 rfl ?_
      refine r_aload_n 0 d_Mod_goes_26 rfl rfl ?_
      refine r_getR 184 d_Mod_goes_27 fk_Mod_52 rfl rfl rfl (by decide) ?_
      refine r_iload_n 1 d_Mod_goes_30 rfl rfl ?_
      refine r_iald 3 d_Mod_goes_31 rfl rfl (by omega) (by omega) ?_
      rw [hz.1]
      refine r_icmp_ge 276 d_Mod_goes_32 rfl (by omega) (by omega) (fun h32 => ?_) (fun h32 => absurd h32 (by omega))
      refine r_aload_n 0 d_Mod_goes_276 rfl rfl ?_
      refine r_aload_n 0 d_Mod_goes_277 rfl rfl ?_
      refine r_iload_n 2 d_Mod_goes_278 rfl rfl ?_
      refine r_iconst d_Mod_goes_279 ?_
      refine r_iload_n 3 d_Mod_goes_280 rfl rfl ?_
      refine r_cVI 8 d_Mod_goes_281 lk_Mod_130 vc_Mod_wayOf (mt_wayOf hO.2.2.2.2 hC1.2.2.2.2.2 hh.1 hh.2 (by omega) (by omega) hmt.1 (by omega)) rfl rfl rfl rfl ⟨Nat.le_of_ble_eq_true rfl, Nat.le_of_ble_eq_true rfl⟩ ⟨Nat.zero_le _, Nat.zero_le _⟩ (Nat.le_of_ble_eq_true rfl) (fun r281 s281 q281 => ?_)
      obtain ⟨e9, hF9⟩ := q281
      rw [← hbe] at e9
      have hvb : wr s281 169 29 r281 181 v = D 10 v := by rw [wr_ne (by omega), hF9 181 v (by omega) (by omega)]; exact (hC1.van v0 (show v < 3 by omega)).2.2.1
      have hzb : wr s281 169 29 r281 184 v = ln (P v) := by rw [wr_ne (by omega), hF9 184 v (by omega) (by omega)]; exact hz.1
      have hw3 : WY (wr s281 169 29 r281) y x := ⟨by rw [wr_ne (by omega), hF9 169 30 (by omega) (by omega)]; exact hw1.1, by rw [wr_ne (by omega), hF9 169 31 (by omega) (by omega)]; exact hw1.2⟩
      have h32 : wr s281 169 29 r281 169 32 = D 11 v - D 9 v + ex D v (P v) (ln (P v)) := by rw [wr_ne (by omega), hF9 169 32 (by omega) (by omega)]; exact hx
      have hve : ∀ c i : Int, 192 ≤ c → c ≤ 194 → wr s281 169 29 r281 c i = σ1 c i := fun c i q1 q2 => by rw [wr_ne (by omega), hF9 c i (by omega) (by omega)]
      have hFe : (∀ c i : Int, c ≠ 189 → c ≠ 190 → (c < 192 ∨ 194 < c) → (c ≠ 169 ∨ i < 29 ∨ 32 < i) → wr s281 169 29 r281 c i = σ c i) := fun c i q1 q2 q3 q4 => by rw [wr_ne (by omega), hF9 c i q1 q2]; exact hF c i q1 q2 q3 q4
      refine r_putI 29 d_Mod_goes_284 fk_Mod_188 rfl rfl rfl (Or.inl rfl) ?_
      refine r_aload_n 0 d_Mod_goes_287 rfl rfl ?_
      refine r_getI 29 d_Mod_goes_288 fk_Mod_188 rfl rfl rfl ?_
      rw [wr_eq]
      refine r_ldc kc_Mod_112 d_Mod_goes_291 ?_
      refine r_icmp_ge 309 d_Mod_goes_293 rfl (by omega) (by omega) (fun h293 => ?_) (fun h293 => ?_)
      · refine r_aload_n 0 d_Mod_goes_309 rfl rfl ?_
        refine r_iconst d_Mod_goes_310 ?_
        refine r_aload_n 0 d_Mod_goes_311 rfl rfl ?_
        refine r_getR 184 d_Mod_goes_312 fk_Mod_52 rfl rfl rfl (by decide) ?_
        refine r_iload_n 1 d_Mod_goes_315 rfl rfl ?_
        refine r_iald 3 d_Mod_goes_316 rfl rfl (by omega) (by omega) ?_
        rw [hzb]
        refine r_cVV 8 d_Mod_goes_317 lk_Mod_181 vc_Mod_fails (mt_fails hw3 (by omega)) rfl rfl rfl rfl ⟨Nat.le_of_ble_eq_true rfl, Nat.le_of_ble_eq_true rfl⟩ ⟨Nat.zero_le _, Nat.zero_le _⟩ (Nat.le_of_ble_eq_true rfl) (fun s317 q317 => ?_)
        obtain ⟨q317, qy⟩ := q317
        refine r_aload_n 0 d_Mod_goes_320 rfl rfl ?_
        refine r_dup d_Mod_goes_321 rfl ?_
        refine r_getI 32 d_Mod_goes_322 fk_Mod_185 rfl rfl rfl ?_
        refine r_aload_n 0 d_Mod_goes_325 rfl rfl ?_
        refine r_getI 29 d_Mod_goes_326 fk_Mod_188 rfl rfl rfl ?_
        refine r_iadd d_Mod_goes_329 ?_
        refine r_putI 32 d_Mod_goes_330 fk_Mod_185 rfl rfl rfl (Or.inl rfl) ?_
        refine q_vret d_Mod_goes_333 rfl ?_
        first
          | (refine ⟨⟨y, x, hf1, ?_⟩, fun c i q1 q2 q3 q4 => by rw [wr_ne (by omega), qy c i (by omega)]; exact hFe c i q1 q2 q3 q4⟩
             rcases q317 with ⟨z1, z2⟩ | ⟨z1, z2⟩
             · exact Or.inr (Or.inl ⟨z1, by omega, by rw [wr_ne (by omega)]; exact z2.1, by rw [wr_ne (by omega)]; exact z2.2⟩)
             · exact Or.inl ⟨z1, by rw [wr_ne (by omega)]; exact z2.1, by rw [wr_ne (by omega)]; exact z2.2⟩)
          | (refine ⟨⟨y, x, hf1, ?_⟩, fun c i q1 q2 q3 q4 => by rw [wr_ne (by omega)]; exact hFe c i q1 q2 q3 q4⟩
             by_cases hy : y = 0
             · refine Or.inr (Or.inr ⟨hy, by omega, ⟨by rw [wr_ne (by omega), ← hy]; exact hw3.1, by rw [wr_ne (by omega)]; exact hw3.2⟩, by rw [wr_ne (by omega), wr_eq, e9], by rw [wr_eq, h32, wr_eq, e9]; omega, fun j j0 j1 => ?_⟩)
               rw [wr_ne (c' := 192) (by omega), wr_ne (c' := 193) (by omega), wr_ne (c' := 194) (by omega), hve 192 j (by omega) (by omega), hve 193 j (by omega) (by omega), hve 194 j (by omega) (by omega)]
               exact hv j j0 j1
             · exact Or.inl ⟨hy, by rw [wr_ne (by omega)]; exact hw3.1, by rw [wr_ne (by omega)]; exact hw3.2⟩)
      · refine r_aload_n 0 d_Mod_goes_296 rfl rfl ?_
        refine r_getI 29 d_Mod_goes_297 fk_Mod_188 rfl rfl rfl ?_
        rw [wr_eq]
        refine r_aload_n 0 d_Mod_goes_300 rfl rfl ?_
        refine r_getR 181 d_Mod_goes_301 fk_Mod_43 rfl rfl rfl (by decide) ?_
        refine r_iload_n 1 d_Mod_goes_304 rfl rfl ?_
        refine r_iald 3 d_Mod_goes_305 rfl rfl (by omega) (by omega) ?_
        rw [hvb]
        refine r_icmp_le 320 d_Mod_goes_306 rfl (by omega) (by omega) (fun h306 => ?_) (fun h306 => ?_)
        · refine r_aload_n 0 d_Mod_goes_320 rfl rfl ?_
          refine r_dup d_Mod_goes_321 rfl ?_
          refine r_getI 32 d_Mod_goes_322 fk_Mod_185 rfl rfl rfl ?_
          refine r_aload_n 0 d_Mod_goes_325 rfl rfl ?_
          refine r_getI 29 d_Mod_goes_326 fk_Mod_188 rfl rfl rfl ?_
          refine r_iadd d_Mod_goes_329 ?_
          refine r_putI 32 d_Mod_goes_330 fk_Mod_185 rfl rfl rfl (Or.inl rfl) ?_
          refine q_vret d_Mod_goes_333 rfl ?_
          first
            | (refine ⟨⟨y, x, hf1, ?_⟩, fun c i q1 q2 q3 q4 => by rw [wr_ne (by omega), qy c i (by omega)]; exact hFe c i q1 q2 q3 q4⟩
               rcases q317 with ⟨z1, z2⟩ | ⟨z1, z2⟩
               · exact Or.inr (Or.inl ⟨z1, by omega, by rw [wr_ne (by omega)]; exact z2.1, by rw [wr_ne (by omega)]; exact z2.2⟩)
               · exact Or.inl ⟨z1, by rw [wr_ne (by omega)]; exact z2.1, by rw [wr_ne (by omega)]; exact z2.2⟩)
            | (refine ⟨⟨y, x, hf1, ?_⟩, fun c i q1 q2 q3 q4 => by rw [wr_ne (by omega)]; exact hFe c i q1 q2 q3 q4⟩
               by_cases hy : y = 0
               · refine Or.inr (Or.inr ⟨hy, by omega, ⟨by rw [wr_ne (by omega), ← hy]; exact hw3.1, by rw [wr_ne (by omega)]; exact hw3.2⟩, by rw [wr_ne (by omega), wr_eq, e9], by rw [wr_eq, h32, wr_eq, e9]; omega, fun j j0 j1 => ?_⟩)
                 rw [wr_ne (c' := 192) (by omega), wr_ne (c' := 193) (by omega), wr_ne (c' := 194) (by omega), hve 192 j (by omega) (by omega), hve 193 j (by omega) (by omega), hve 194 j (by omega) (by omega)]
                 exact hv j j0 j1
               · exact Or.inl ⟨hy, by rw [wr_ne (by omega)]; exact hw3.1, by rw [wr_ne (by omega)]; exact hw3.2⟩)
        · refine r_aload_n 0 d_Mod_goes_309 rfl rfl ?_
          refine r_iconst d_Mod_goes_310 ?_
          refine r_aload_n 0 d_Mod_goes_311 rfl rfl ?_
          refine r_getR 184 d_Mod_goes_312 fk_Mod_52 rfl rfl rfl (by decide) ?_
          refine r_iload_n 1 d_Mod_goes_315 rfl rfl ?_
          refine r_iald 3 d_Mod_goes_316 rfl rfl (by omega) (by omega) ?_
          rw [hzb]
          refine r_cVV 8 d_Mod_goes_317 lk_Mod_181 vc_Mod_fails (mt_fails hw3 (by omega)) rfl rfl rfl rfl ⟨Nat.le_of_ble_eq_true rfl, Nat.le_of_ble_eq_true rfl⟩ ⟨Nat.zero_le _, Nat.zero_le _⟩ (Nat.le_of_ble_eq_true rfl) (fun s317 q317 => ?_)
          obtain ⟨q317, qy⟩ := q317
          refine r_aload_n 0 d_Mod_goes_320 rfl rfl ?_
          refine r_dup d_Mod_goes_321 rfl ?_
          refine r_getI 32 d_Mod_goes_322 fk_Mod_185 rfl rfl rfl ?_
          refine r_aload_n 0 d_Mod_goes_325 rfl rfl ?_
          refine r_getI 29 d_Mod_goes_326 fk_Mod_188 rfl rfl rfl ?_
          refine r_iadd d_Mod_goes_329 ?_
          refine r_putI 32 d_Mod_goes_330 fk_Mod_185 rfl rfl rfl (Or.inl rfl) ?_
          refine q_vret d_Mod_goes_333 rfl ?_
          first
            | (refine ⟨⟨y, x, hf1, ?_⟩, fun c i q1 q2 q3 q4 => by rw [wr_ne (by omega), qy c i (by omega)]; exact hFe c i q1 q2 q3 q4⟩
               rcases q317 with ⟨z1, z2⟩ | ⟨z1, z2⟩
               · exact Or.inr (Or.inl ⟨z1, by omega, by rw [wr_ne (by omega)]; exact z2.1, by rw [wr_ne (by omega)]; exact z2.2⟩)
               · exact Or.inl ⟨z1, by rw [wr_ne (by omega)]; exact z2.1, by rw [wr_ne (by omega)]; exact z2.2⟩)
            | (refine ⟨⟨y, x, hf1, ?_⟩, fun c i q1 q2 q3 q4 => by rw [wr_ne (by omega)]; exact hFe c i q1 q2 q3 q4⟩
               by_cases hy : y = 0
               · refine Or.inr (Or.inr ⟨hy, by omega, ⟨by rw [wr_ne (by omega), ← hy]; exact hw3.1, by rw [wr_ne (by omega)]; exact hw3.2⟩, by rw [wr_ne (by omega), wr_eq, e9], by rw [wr_eq, h32, wr_eq, e9]; omega, fun j j0 j1 => ?_⟩)
                 rw [wr_ne (c' := 192) (by omega), wr_ne (c' := 193) (by omega), wr_ne (c' := 194) (by omega), hve 192 j (by omega) (by omega), hve 193 j (by omega) (by omega), hve 194 j (by omega) (by omega)]
                 exact hv j j0 j1
               · exact Or.inl ⟨hy, by rw [wr_ne (by omega)]; exact hw3.1, by rw [wr_ne (by omega)]; exact hw3.2⟩)
    · intro i i0 i1 ih σ1 y x hw1 hf1 hc hx hv hF
      have hC1 := hC.keep (σ' := σ1) (fun c i q => hF c i (by omega) (by omega) (by omega) (by omega))
      have hQ1 := hQ.keep (σ' := σ1) (fun c i q => hF c i (by omega) (by omega) (by omega) (by omega))
      have hz := hQ1.len v0 (show v < 3 by omega)
      have he := hQ1.el v0 (show v < 3 by omega) i0 i1
      have hrr := hl.2 i i0 i1
      have hat := hC1.at hrr.1 (by omega)
      have hd := hO.2.1 _ hrr.1 hrr.2
      have hmt := mt_b hO hl v0 v1 i0 (by omega) hc
      have hh := hr_in hO hl i0 (by omega)
      have hcr := way_in (a := hr D (P v) i) (b := D 1 (gt (P v) i)) hO.2.2.2.2 hmt.1 (by omega) (by omega) (by omega)
      have hce : cm D v (P v) i = way D (hr D (P v) i) (D 1 (gt (P v) i)) (mt D v (P v) i) := rfl
      rw [← hce] at hcr
      have hbg : bg D v (P v) i = mx (cm D v (P v) i) (D 2 (gt (P v) i)) := rfl
      have hbr : 0 ≤ bg D v (P v) i ∧ bg D v (P v) i ≤ 1000000 ∧ cm D v (P v) i ≤ bg D v (P v) i ∧ (1000000 ≤ cm D v (P v) i → 480 ≤ bg D v (P v) i) := by rw [hbg]; unfold mx; split <;> omega
      have hyr := hf1.yr (by omega) (by omega)
      have hms := mt_s (D := D) (v := v) (l := P v) i0
      have hhs := hr_s (D := D) (l := P v) i0
      have hes := ex_s (D := D) (v := v) (l := P v) i0
      have hlt : lte D v (P v) i = mx (bg D v (P v) i - D 3 (gt (P v) i)) 0 := rfl
      have k159 : ∀ (σ2 : sto) (y x : Int), WY σ2 y x → FI (pr3 D v (P v)) 3 y0 x0 (i + 1) y x → (1000000 ≤ cm D v (P v) i → y ≠ 0) → σ2 169 32 = D 11 v - D 9 v + ex D v (P v) i → σ2 192 i = cm D v (P v) i → σ2 193 i = bg D v (P v) i → (∀ j, 0 ≤ j → j < i → σ2 192 j = cm D v (P v) j ∧ σ2 193 j = bg D v (P v) j ∧ σ2 194 j = mt D v (P v) (j + 1)) → (∀ c i : Int, c ≠ 189 → c ≠ 190 → (c < 192 ∨ 194 < c) → (c ≠ 169 ∨ i < 29 ∨ 32 < i) → σ2 c i = σ c i) → Run M_Mod_goes (rxV 3 (fun σ' => (∃ y1 x1, FI (pr3 D v (P v)) 3 y0 x0 (ln (P v)) y1 x1 ∧ (y1 ≠ 0 ∧ WY σ' y1 x1 ∨ y1 = 0 ∧ D 10 v < bk D v (P v) ∧ WY σ' 4 (ln (P v)) ∨ y1 = 0 ∧ bk D v (P v) ≤ D 10 v ∧ WY σ' 0 x1 ∧ σ' 169 29 = bk D v (P v) ∧ σ' 169 32 = ex D v (P v) (ln (P v)) + (bk D v (P v) - D 9 v + D 11 v) ∧ (∀ j, 0 ≤ j → j < ln (P v) → σ' 192 j = cm D v (P v) j ∧ σ' 193 j = bg D v (P v) j ∧ σ' 194 j = mt D v (P v) (j + 1)))) ∧ (∀ c i : Int, c ≠ 189 → c ≠ 190 → (c < 192 ∨ 194 < c) → (c ≠ 169 ∨ i < 29 ∨ 32 < i) → σ' c i = σ c i))) (0, 0) 159 [vR 169, vI v, vI (hr D (P v) i), vI (mt D v (P v) i), vI i, vI (gt (P v) i), vI (cm D v (P v) i)] [] (sg σ2) := by
        intro σ2 y x hw2 hf2 hy2 hx2 ha2 hb2 hv2 hF2
        have hat := (hC.keep (σ' := σ2) (fun c i q => hF2 c i (by omega) (by omega) (by omega) (by omega))).at hrr.1 (by omega)
        have k254 : ∀ σ3 : sto, (∀ c i : Int, (c ≠ 169 ∨ i ≠ 32) → c ≠ 194 → σ3 c i = σ2 c i) → (∀ j, j ≠ i → σ3 194 j = σ2 194 j) → σ3 194 i = mt D v (P v) (i + 1) → σ3 169 32 = D 11 v - D 9 v + ex D v (P v) (i + 1) → cm D v (P v) i < 1000000 → Run M_Mod_goes (rxV 3 (fun σ' => (∃ y1 x1, FI (pr3 D v (P v)) 3 y0 x0 (ln (P v)) y1 x1 ∧ (y1 ≠ 0 ∧ WY σ' y1 x1 ∨ y1 = 0 ∧ D 10 v < bk D v (P v) ∧ WY σ' 4 (ln (P v)) ∨ y1 = 0 ∧ bk D v (P v) ≤ D 10 v ∧ WY σ' 0 x1 ∧ σ' 169 29 = bk D v (P v) ∧ σ' 169 32 = ex D v (P v) (ln (P v)) + (bk D v (P v) - D 9 v + D 11 v) ∧ (∀ j, 0 ≤ j → j < ln (P v) → σ' 192 j = cm D v (P v) j ∧ σ' 193 j = bg D v (P v) j ∧ σ' 194 j = mt D v (P v) (j + 1)))) ∧ (∀ c i : Int, c ≠ 189 → c ≠ 190 → (c < 192 ∨ 194 < c) → (c ≠ 169 ∨ i < 29 ∨ 32 < i) → σ' c i = σ c i))) (0, 0) 254 [vR 169, vI v, vI (hr D (P v) i), vI (mt D v (P v) i), vI i, vI (gt (P v) i), vI (cm D v (P v) i)] [] (sg σ3) := by
          intro σ3 g1 g2 g3 g4 g5
          have hp3 : σ3 172 (gt (P v) i) = D 1 (gt (P v) i) := by rw [g1 172 _ (by omega) (by omega)]; exact hat.2.1
          refine r_aload_n 0 d_Mod_goes_254 rfl rfl ?_
          refine r_getR 172 d_Mod_goes_255 fk_Mod_16 rfl rfl rfl (by decide) ?_
          refine r_iload 5 d_Mod_goes_258 rfl ?_
          refine r_iald 12 d_Mod_goes_260 rfl rfl (by omega) (by omega) ?_
          rw [hp3, ← hhs]
          refine r_istore_n 2 d_Mod_goes_261 rfl (by decide) rfl ?_
          refine r_aload_n 0 d_Mod_goes_262 rfl rfl ?_
          refine r_getR 194 d_Mod_goes_263 fk_Mod_83 rfl rfl rfl (by decide) ?_
          refine r_iload 4 d_Mod_goes_266 rfl ?_
          refine r_iald 12 d_Mod_goes_268 rfl rfl (by omega) (by omega) ?_
          rw [g3]
          refine r_istore_n 3 d_Mod_goes_269 rfl (by decide) rfl ?_
          refine r_iinc 4 d_Mod_goes_270 rfl (by decide) rfl ?_
          refine r_goto 24 d_Mod_goes_273 rfl ?_
          refine r_drop 5 (r_drop 6 (ih σ3 y x ⟨by rw [g1 169 30 (by omega) (by omega)]; exact hw2.1, by rw [g1 169 31 (by omega) (by omega)]; exact hw2.2⟩ hf2 (fun j j0 j1 => ?_) g4 (fun j j0 j1 => ?_) (fun c k q1 q2 q3 q4 => by rw [g1 c k (by omega) (by omega)]; exact hF2 c k q1 q2 q3 q4)))
          · by_cases e : j = i
            · rw [e]; exact g5
            · exact hc j j0 (by omega)
          · rw [g1 192 j (by omega) (by omega), g1 193 j (by omega) (by omega)]
            by_cases e : j = i
            · rw [e]; exact ⟨ha2, hb2, g3⟩
            · rw [g2 j e]; exact hv2 j j0 (by omega)
        refine r_iload 6 d_Mod_goes_159 rfl ?_
        refine r_ldc kc_Mod_112 d_Mod_goes_161 ?_
        refine r_icmp_lt 167 d_Mod_goes_163 rfl (by omega) (by omega) (fun h163 => ?_) (fun h163 => ?_)
        · refine r_aload_n 0 d_Mod_goes_167 rfl rfl ?_
          refine r_getR 194 d_Mod_goes_168 fk_Mod_83 rfl rfl rfl (by decide) ?_
          refine r_iload 4 d_Mod_goes_171 rfl ?_
          refine r_aload_n 0 d_Mod_goes_173 rfl rfl ?_
          refine r_getR 193 d_Mod_goes_174 fk_Mod_80 rfl rfl rfl (by decide) ?_
          refine r_iload 4 d_Mod_goes_177 rfl ?_
          refine r_iald 12 d_Mod_goes_179 rfl rfl (by omega) (by omega) ?_
          refine r_aload_n 0 d_Mod_goes_180 rfl rfl ?_
          refine r_getR 175 d_Mod_goes_181 fk_Mod_25 rfl rfl rfl (by decide) ?_
          refine r_iload 5 d_Mod_goes_184 rfl ?_
          refine r_iald 12 d_Mod_goes_186 rfl rfl (by omega) (by omega) ?_
          rw [hb2, hat.2.2.2.2.1]
          refine r_iadd d_Mod_goes_187 ?_
          rw [← hms]
          refine r_iast 12 d_Mod_goes_188 rfl rfl (by omega) (by omega) ?_
          have hs1 : wr σ2 194 i (mt D v (P v) (i + 1)) 175 (gt (P v) i) = D 4 (gt (P v) i) := by rw [wr_ne (by omega)]; exact hat.2.2.2.2.1
          have h321 : wr σ2 194 i (mt D v (P v) (i + 1)) 169 32 = D 11 v - D 9 v + ex D v (P v) i := by rw [wr_ne (by omega)]; exact hx2
          refine r_aload_n 0 d_Mod_goes_189 rfl rfl ?_
          refine r_dup d_Mod_goes_190 rfl ?_
          refine r_getI 32 d_Mod_goes_191 fk_Mod_185 rfl rfl rfl ?_
          refine r_aload_n 0 d_Mod_goes_194 rfl rfl ?_
          refine r_getR 175 d_Mod_goes_195 fk_Mod_25 rfl rfl rfl (by decide) ?_
          refine r_iload 5 d_Mod_goes_198 rfl ?_
          refine r_iald 12 d_Mod_goes_200 rfl rfl (by omega) (by omega) ?_
          rw [hs1, h321]
          refine r_isub d_Mod_goes_201 ?_
          refine r_putI 32 d_Mod_goes_202 fk_Mod_185 rfl rfl rfl (Or.inl rfl) ?_
          have hb4 : wr (wr σ2 194 i (mt D v (P v) (i + 1))) 169 32 (D 11 v - D 9 v + ex D v (P v) i - D 4 (gt (P v) i)) 193 i = bg D v (P v) i := by rw [wr_ne (by omega), wr_ne (by omega)]; exact hb2
          have ht4 : wr (wr σ2 194 i (mt D v (P v) (i + 1))) 169 32 (D 11 v - D 9 v + ex D v (P v) i - D 4 (gt (P v) i)) 174 (gt (P v) i) = D 3 (gt (P v) i) := by rw [wr_ne (by omega), wr_ne (by omega)]; exact hat.2.2.2.1
          have hp4 : wr (wr σ2 194 i (mt D v (P v) (i + 1))) 169 32 (D 11 v - D 9 v + ex D v (P v) i - D 4 (gt (P v) i)) 178 (gt (P v) i) = D 7 (gt (P v) i) := by rw [wr_ne (by omega), wr_ne (by omega)]; exact hat.2.2.2.2.2.2
          have h324 : wr (wr σ2 194 i (mt D v (P v) (i + 1))) 169 32 (D 11 v - D 9 v + ex D v (P v) i - D 4 (gt (P v) i)) 169 32 = D 11 v - D 9 v + ex D v (P v) i - D 4 (gt (P v) i) := wr_eq
          refine r_aload_n 0 d_Mod_goes_205 rfl rfl ?_
          refine r_getR 193 d_Mod_goes_206 fk_Mod_80 rfl rfl rfl (by decide) ?_
          refine r_iload 4 d_Mod_goes_209 rfl ?_
          refine r_iald 12 d_Mod_goes_211 rfl rfl (by omega) (by omega) ?_
          refine r_aload_n 0 d_Mod_goes_212 rfl rfl ?_
          refine r_getR 174 d_Mod_goes_213 fk_Mod_22 rfl rfl rfl (by decide) ?_
          refine r_iload 5 d_Mod_goes_216 rfl ?_
          refine r_iald 12 d_Mod_goes_218 rfl rfl (by omega) (by omega) ?_
          rw [hb4, ht4]
          refine r_icmp_le 254 d_Mod_goes_219 rfl (by omega) (by omega) (fun h219 => ?_) (fun h219 => ?_)
          · first
              | (refine k254 _ (fun c k q1 q2 => by rw [wr_ne (by omega), wr_ne (by omega), wr_ne (by omega)]) (fun j q => by rw [wr_ne (by omega), wr_ne (by omega), wr_ne (by omega)]) (by rw [wr_ne (by omega), wr_ne (by omega), wr_eq]) (by rw [wr_eq, hes, hlt]; unfold mx; rw [if_neg (by omega), Int.mul_comm]; omega) (by omega))
              | (refine k254 _ (fun c k q1 q2 => by rw [wr_ne (by omega), wr_ne (by omega)]) (fun j q => by rw [wr_ne (by omega), wr_ne (by omega)]) (by rw [wr_ne (by omega), wr_eq]) (by have hl0 : lte D v (P v) i = 0 := (by rw [hlt]; unfold mx; split <;> omega); rw [wr_eq, hes, hl0, Int.zero_mul]; omega) (by omega))
          · refine r_aload_n 0 d_Mod_goes_222 rfl rfl ?_
            refine r_dup d_Mod_goes_223 rfl ?_
            refine r_getI 32 d_Mod_goes_224 fk_Mod_185 rfl rfl rfl ?_
            refine r_aload_n 0 d_Mod_goes_227 rfl rfl ?_
            refine r_getR 178 d_Mod_goes_228 fk_Mod_34 rfl rfl rfl (by decide) ?_
            refine r_iload 5 d_Mod_goes_231 rfl ?_
            refine r_iald 12 d_Mod_goes_233 rfl rfl (by omega) (by omega) ?_
            refine r_aload_n 0 d_Mod_goes_234 rfl rfl ?_
            refine r_getR 193 d_Mod_goes_235 fk_Mod_80 rfl rfl rfl (by decide) ?_
            refine r_iload 4 d_Mod_goes_238 rfl ?_
            refine r_iald 12 d_Mod_goes_240 rfl rfl (by omega) (by omega) ?_
            refine r_aload_n 0 d_Mod_goes_241 rfl rfl ?_
            refine r_getR 174 d_Mod_goes_242 fk_Mod_22 rfl rfl rfl (by decide) ?_
            refine r_iload 5 d_Mod_goes_245 rfl ?_
            refine r_iald 12 d_Mod_goes_247 rfl rfl (by omega) (by omega) ?_
            refine r_isub d_Mod_goes_248 ?_
            refine r_imul d_Mod_goes_249 ?_
            rw [hp4, hb4, ht4, h324]
            refine r_iadd d_Mod_goes_250 ?_
            refine r_putI 32 d_Mod_goes_251 fk_Mod_185 rfl rfl rfl (Or.inl rfl) ?_
            first
              | (refine k254 _ (fun c k q1 q2 => by rw [wr_ne (by omega), wr_ne (by omega), wr_ne (by omega)]) (fun j q => by rw [wr_ne (by omega), wr_ne (by omega), wr_ne (by omega)]) (by rw [wr_ne (by omega), wr_ne (by omega), wr_eq]) (by rw [wr_eq, hes, hlt]; unfold mx; rw [if_neg (by omega), Int.mul_comm]; omega) (by omega))
              | (refine k254 _ (fun c k q1 q2 => by rw [wr_ne (by omega), wr_ne (by omega)]) (fun j q => by rw [wr_ne (by omega), wr_ne (by omega)]) (by rw [wr_ne (by omega), wr_eq]) (by have hl0 : lte D v (P v) i = 0 := (by rw [hlt]; unfold mx; split <;> omega); rw [wr_eq, hes, hl0, Int.zero_mul]; omega) (by omega))
        · refine q_vret d_Mod_goes_166 rfl ?_
          exact ⟨⟨y, x, hf2.more (hy2 (by omega)) (by omega), Or.inl ⟨hy2 (by omega), hw2⟩⟩, hF2⟩
      have k104 : ∀ (σ2 : sto), (∀ c k : Int, c ≠ 189 → c ≠ 190 → (c ≠ 192 ∧ c ≠ 193 ∨ k ≠ i) → σ2 c k = σ1 c k) → σ2 192 i = cm D v (P v) i → σ2 193 i = bg D v (P v) i → Run M_Mod_goes (rxV 3 (fun σ' => (∃ y1 x1, FI (pr3 D v (P v)) 3 y0 x0 (ln (P v)) y1 x1 ∧ (y1 ≠ 0 ∧ WY σ' y1 x1 ∨ y1 = 0 ∧ D 10 v < bk D v (P v) ∧ WY σ' 4 (ln (P v)) ∨ y1 = 0 ∧ bk D v (P v) ≤ D 10 v ∧ WY σ' 0 x1 ∧ σ' 169 29 = bk D v (P v) ∧ σ' 169 32 = ex D v (P v) (ln (P v)) + (bk D v (P v) - D 9 v + D 11 v) ∧ (∀ j, 0 ≤ j → j < ln (P v) → σ' 192 j = cm D v (P v) j ∧ σ' 193 j = bg D v (P v) j ∧ σ' 194 j = mt D v (P v) (j + 1)))) ∧ (∀ c i : Int, c ≠ 189 → c ≠ 190 → (c < 192 ∨ 194 < c) → (c ≠ 169 ∨ i < 29 ∨ 32 < i) → σ' c i = σ c i))) (0, 0) 104 [vR 169, vI v, vI (hr D (P v) i), vI (mt D v (P v) i), vI i, vI (gt (P v) i), vI (cm D v (P v) i)] [] (sg σ2) := by
        intro σ2 g1 g2 g3
        have hat := (hC1.keep (σ' := σ2) (fun c i q => g1 c i (by omega) (by omega) (by omega))).at hrr.1 (by omega)
        have hw2 : WY σ2 y x := ⟨by rw [g1 169 30 (by omega) (by omega) (by omega)]; exact hw1.1, by rw [g1 169 31 (by omega) (by omega) (by omega)]; exact hw1.2⟩
        have hx2 : σ2 169 32 = D 11 v - D 9 v + ex D v (P v) i := by rw [g1 169 32 (by omega) (by omega) (by omega)]; exact hx
        have hv2 : (∀ j, 0 ≤ j → j < i → σ2 192 j = cm D v (P v) j ∧ σ2 193 j = bg D v (P v) j ∧ σ2 194 j = mt D v (P v) (j + 1)) := fun j j0 j1 => by rw [g1 192 j (by omega) (by omega) (by omega), g1 193 j (by omega) (by omega) (by omega), g1 194 j (by omega) (by omega) (by omega)]; exact hv j j0 j1
        have hF2 : (∀ c i : Int, c ≠ 189 → c ≠ 190 → (c < 192 ∨ 194 < c) → (c ≠ 169 ∨ i < 29 ∨ 32 < i) → σ2 c i = σ c i) := fun c k q1 q2 q3 q4 => by rw [g1 c k q1 q2 (by omega)]; exact hF c k q1 q2 q3 q4
        have k152 : pr3 D v (P v) i = true → Run M_Mod_goes (rxV 3 (fun σ' => (∃ y1 x1, FI (pr3 D v (P v)) 3 y0 x0 (ln (P v)) y1 x1 ∧ (y1 ≠ 0 ∧ WY σ' y1 x1 ∨ y1 = 0 ∧ D 10 v < bk D v (P v) ∧ WY σ' 4 (ln (P v)) ∨ y1 = 0 ∧ bk D v (P v) ≤ D 10 v ∧ WY σ' 0 x1 ∧ σ' 169 29 = bk D v (P v) ∧ σ' 169 32 = ex D v (P v) (ln (P v)) + (bk D v (P v) - D 9 v + D 11 v) ∧ (∀ j, 0 ≤ j → j < ln (P v) → σ' 192 j = cm D v (P v) j ∧ σ' 193 j = bg D v (P v) j ∧ σ' 194 j = mt D v (P v) (j + 1)))) ∧ (∀ c i : Int, c ≠ 189 → c ≠ 190 → (c < 192 ∨ 194 < c) → (c ≠ 169 ∨ i < 29 ∨ 32 < i) → σ' c i = σ c i))) (0, 0) 152 [vR 169, vI v, vI (hr D (P v) i), vI (mt D v (P v) i), vI i, vI (gt (P v) i), vI (cm D v (P v) i)] [] (sg σ2) := by
          intro hp
          refine r_aload_n 0 d_Mod_goes_152 rfl rfl ?_
          refine r_iconst d_Mod_goes_153 ?_
          refine r_iload 4 d_Mod_goes_154 rfl ?_
          refine r_cVV 8 d_Mod_goes_156 lk_Mod_181 vc_Mod_fails (mt_fails hw2 (by omega)) rfl rfl rfl rfl ⟨Nat.le_of_ble_eq_true rfl, Nat.le_of_ble_eq_true rfl⟩ ⟨Nat.zero_le _, Nat.zero_le _⟩ (Nat.le_of_ble_eq_true rfl) (fun s156 q156 => ?_)
          obtain ⟨q156, qy⟩ := q156
          obtain ⟨y2, x2, f2, w2⟩ := hf1.fail i0 (by omega) hp q156
          exact k159 _ y2 x2 w2 f2 (fun _ => f2.ne i0 hp (by omega)) (by rw [qy 169 32 (by omega)]; exact hx2) (by rw [qy 192 i (by omega)]; exact g2) (by rw [qy 193 i (by omega)]; exact g3) (fun j j0 j1 => by rw [qy 192 j (by omega), qy 193 j (by omega), qy 194 j (by omega)]; exact hv2 j j0 j1) (fun c k q1 q2 q3 q4 => by rw [qy c k (by omega)]; exact hF2 c k q1 q2 q3 q4)
        refine r_iload 6 d_Mod_goes_104 rfl ?_
        refine r_ldc kc_Mod_112 d_Mod_goes_106 ?_
        refine r_icmp_ge 152 d_Mod_goes_108 rfl (by omega) (by omega) (fun h108 => ?_) (fun h108 => ?_)
        · exact k152 (decide_eq_true (by omega))
        · refine r_aload_n 0 d_Mod_goes_111 rfl rfl ?_
          refine r_getR 193 d_Mod_goes_112 fk_Mod_80 rfl rfl rfl (by decide) ?_
          refine r_iload 4 d_Mod_goes_115 rfl ?_
          refine r_iald 12 d_Mod_goes_117 rfl rfl (by omega) (by omega) ?_
          rw [g3]
          refine r_sipush d_Mod_goes_118 (by decide) ?_
          refine r_icmp_ge 152 d_Mod_goes_121 rfl (by omega) (by omega) (fun h121 => ?_) (fun h121 => ?_)
          · exact k152 (decide_eq_true (by omega))
          · refine r_aload_n 0 d_Mod_goes_124 rfl rfl ?_
            refine r_getR 171 d_Mod_goes_125 fk_Mod_13 rfl rfl rfl (by decide) ?_
            refine r_iload 5 d_Mod_goes_128 rfl ?_
            refine r_iald 12 d_Mod_goes_130 rfl rfl (by omega) (by omega) ?_
            rw [hat.1]
            refine r_iconst d_Mod_goes_131 ?_
            refine r_icmp_eq 159 d_Mod_goes_132 rfl (by omega) (by omega) (fun h132 => ?_) (fun h132 => ?_)
            · exact k159 σ2 y x hw2 (hf1.pass (decide_eq_false (by omega))) (fun q => by omega) hx2 g2 g3 hv2 hF2
            · refine r_aload_n 0 d_Mod_goes_135 rfl rfl ?_
              refine r_getR 193 d_Mod_goes_136 fk_Mod_80 rfl rfl rfl (by decide) ?_
              refine r_iload 4 d_Mod_goes_139 rfl ?_
              refine r_iald 12 d_Mod_goes_141 rfl rfl (by omega) (by omega) ?_
              rw [g3]
              refine r_aload_n 0 d_Mod_goes_142 rfl rfl ?_
              refine r_getR 174 d_Mod_goes_143 fk_Mod_22 rfl rfl rfl (by decide) ?_
              refine r_iload 5 d_Mod_goes_146 rfl ?_
              refine r_iald 12 d_Mod_goes_148 rfl rfl (by omega) (by omega) ?_
              rw [hat.2.2.2.1]
              refine r_icmp_le 159 d_Mod_goes_149 rfl (by omega) (by omega) (fun h149 => ?_) (fun h149 => ?_)
              · exact k159 σ2 y x hw2 (hf1.pass (decide_eq_false (by omega))) (fun q => by omega) hx2 g2 g3 hv2 hF2
              · exact k152 (decide_eq_true (by omega))
      refine r_iload 4 d_Mod_goes_24 rfl ?_
      refine r_aload_n 0 d_Mod_goes_26 rfl rfl ?_
      refine r_getR 184 d_Mod_goes_27 fk_Mod_52 rfl rfl rfl (by decide) ?_
      refine r_iload_n 1 d_Mod_goes_30 rfl rfl ?_
      refine r_iald 3 d_Mod_goes_31 rfl rfl (by omega) (by omega) ?_
      rw [hz.1]
      refine r_icmp_ge 276 d_Mod_goes_32 rfl (by omega) (by omega) (fun h32 => absurd h32 (by omega)) (fun h32 => ?_)
      refine r_aload_n 0 d_Mod_goes_35 rfl rfl ?_
      refine r_getR 183 d_Mod_goes_36 fk_Mod_49 rfl rfl rfl (by decide) ?_
      refine r_bipush d_Mod_goes_39 (by decide) ?_
      refine r_iload_n 1 d_Mod_goes_41 rfl rfl ?_
      refine r_imul d_Mod_goes_42 ?_
      refine r_iload 4 d_Mod_goes_43 rfl ?_
      refine r_iadd d_Mod_goes_45 ?_
      refine r_iald 36 d_Mod_goes_46 rfl rfl (by omega) (by omega) ?_
      rw [he.1]
      refine r_istore 5 d_Mod_goes_47 (by decide) rfl ?_
      refine r_aload_n 0 d_Mod_goes_49 rfl rfl ?_
      refine r_iload_n 2 d_Mod_goes_50 rfl rfl ?_
      refine r_aload_n 0 d_Mod_goes_51 rfl rfl ?_
      refine r_getR 172 d_Mod_goes_52 fk_Mod_16 rfl rfl rfl (by decide) ?_
      refine r_iload 5 d_Mod_goes_55 rfl ?_
      refine r_iald 12 d_Mod_goes_57 rfl rfl (by omega) (by omega) ?_
      rw [hat.2.1]
      refine r_iload_n 3 d_Mod_goes_58 rfl rfl ?_
      refine r_cVI 8 d_Mod_goes_59 lk_Mod_130 vc_Mod_wayOf (mt_wayOf hO.2.2.2.2 hC1.2.2.2.2.2 hh.1 hh.2 (by omega) (by omega) hmt.1 (by omega)) rfl rfl rfl rfl ⟨Nat.le_of_ble_eq_true rfl, Nat.le_of_ble_eq_true rfl⟩ ⟨Nat.zero_le _, Nat.zero_le _⟩ (Nat.le_of_ble_eq_true rfl) (fun r59 s59 q59 => ?_)
      obtain ⟨e9, hF9⟩ := q59
      rw [← hce] at e9
      rw [e9]
      have hfr : wr s59 192 i (cm D v (P v) i) 173 (gt (P v) i) = D 2 (gt (P v) i) := by rw [wr_ne (by omega), hF9 173 _ (by omega) (by omega)]; exact hat.2.2.1
      refine r_istore 6 d_Mod_goes_62 (by decide) rfl ?_
      refine r_aload_n 0 d_Mod_goes_64 rfl rfl ?_
      refine r_getR 192 d_Mod_goes_65 fk_Mod_77 rfl rfl rfl (by decide) ?_
      refine r_iload 4 d_Mod_goes_68 rfl ?_
      refine r_iload 6 d_Mod_goes_70 rfl ?_
      refine r_iast 12 d_Mod_goes_72 rfl rfl (by omega) (by omega) ?_
      refine r_aload_n 0 d_Mod_goes_73 rfl rfl ?_
      refine r_getR 193 d_Mod_goes_74 fk_Mod_80 rfl rfl rfl (by decide) ?_
      refine r_iload 4 d_Mod_goes_77 rfl ?_
      refine r_iload 6 d_Mod_goes_79 rfl ?_
      refine r_aload_n 0 d_Mod_goes_81 rfl rfl ?_
      refine r_getR 173 d_Mod_goes_82 fk_Mod_19 rfl rfl rfl (by decide) ?_
      refine r_iload 5 d_Mod_goes_85 rfl ?_
      refine r_iald 12 d_Mod_goes_87 rfl rfl (by omega) (by omega) ?_
      rw [hfr]
      refine r_icmp_ge 101 d_Mod_goes_88 rfl (by omega) (by omega) (fun h88 => ?_) (fun h88 => ?_)
      · refine r_iload 6 d_Mod_goes_101 rfl ?_
        refine r_iast 12 d_Mod_goes_103 rfl rfl (by omega) (by omega) ?_
        refine k104 _ (fun c k q1 q2 q3 => by rw [wr_ne (by omega), wr_ne (by omega), hF9 c k q1 q2]) (by rw [wr_ne (by omega), wr_eq]) ?_
        rw [wr_eq, hbg]
        unfold mx
        first | rw [if_pos (by omega)] | rw [if_neg (by omega)]
      · refine r_aload_n 0 d_Mod_goes_91 rfl rfl ?_
        refine r_getR 173 d_Mod_goes_92 fk_Mod_19 rfl rfl rfl (by decide) ?_
        refine r_iload 5 d_Mod_goes_95 rfl ?_
        refine r_iald 12 d_Mod_goes_97 rfl rfl (by omega) (by omega) ?_
        rw [hfr]
        refine r_goto 103 d_Mod_goes_98 rfl ?_
        refine r_iast 12 d_Mod_goes_103 rfl rfl (by omega) (by omega) ?_
        refine k104 _ (fun c k q1 q2 q3 => by rw [wr_ne (by omega), wr_ne (by omega), hF9 c k q1 q2]) (by rw [wr_ne (by omega), wr_eq]) ?_
        rw [wr_eq, hbg]
        unfold mx
        first | rw [if_pos (by omega)] | rw [if_neg (by omega)]
  refine cv_of [vR 169, vI v, vU, vU, vU, vU, vU] fy_Mod_goes.1 rfl (Nat.le_of_ble_eq_true rfl) ?_
  refine r_iconst d_Mod_goes_0 ?_
  refine r_istore_n 2 d_Mod_goes_1 rfl (by decide) rfl ?_
  refine r_aload_n 0 d_Mod_goes_2 rfl rfl ?_
  refine r_getR 180 d_Mod_goes_3 fk_Mod_40 rfl rfl rfl (by decide) ?_
  refine r_iload_n 1 d_Mod_goes_6 rfl rfl ?_
  refine r_iald 3 d_Mod_goes_7 rfl rfl (by omega) (by omega) ?_
  rw [hvan.2.1]
  refine r_istore_n 3 d_Mod_goes_8 rfl (by decide) rfl ?_
  refine r_aload_n 0 d_Mod_goes_9 rfl rfl ?_
  refine r_aload_n 0 d_Mod_goes_10 rfl rfl ?_
  refine r_getR 182 d_Mod_goes_11 fk_Mod_46 rfl rfl rfl (by decide) ?_
  refine r_iload_n 1 d_Mod_goes_14 rfl rfl ?_
  refine r_iald 3 d_Mod_goes_15 rfl rfl (by omega) (by omega) ?_
  refine r_iload_n 3 d_Mod_goes_16 rfl rfl ?_
  rw [hvan.2.2.2]
  refine r_isub d_Mod_goes_17 ?_
  refine r_putI 32 d_Mod_goes_18 fk_Mod_185 rfl rfl rfl (Or.inl rfl) ?_
  refine r_iconst d_Mod_goes_21 ?_
  refine r_istore 4 d_Mod_goes_22 (by decide) rfl ?_
  refine key 0 (by omega) hl0 _ y0 x0 ⟨by rw [wr_ne (by omega)]; exact hw.1, by rw [wr_ne (by omega)]; exact hw.2⟩ (FI.zero (by omega)) (fun j j0 j1 => by omega) ?_ (fun j j0 j1 => by omega) (fun c k q1 q2 q3 q4 => by rw [wr_ne (by omega)])
  rw [wr_eq]
  show _ = D 11 v - D 9 v + 0
  omega
