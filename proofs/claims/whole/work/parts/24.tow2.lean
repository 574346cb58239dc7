-- TOWN, told streets (walks written by wip/whole/gen_tow2.py)
theorem lat_congr {f g : Int → Int} (h : ∀ k, 0 ≤ k → k < 8 → f k = g k) : ∀ k : Int, 0 ≤ k → k ≤ 8 → lat f k = lat g k := by
  have key : ∀ n : Nat, ∀ k : Int, 0 ≤ k → k ≤ 8 → (8 - k).toNat = n → lat f k = lat g k := by
    intro n
    induction n with
    | zero =>
      intro k k0 k1 hn
      have e : k = 8 := by omega
      rw [e]; rfl
    | succ n ih =>
      intro k k0 k1 hn
      rw [lat_step k0 (by omega), lat_step k0 (by omega), ih (k + 1) (by omega) (by omega) (by omega), h k k0 (by omega)]
  exact fun k k0 k1 => key _ k k0 k1 rfl
/-- the street of a and b has the hours f -/
def dST (D : sto) (a b : Int) (f : Int → Int) : sto := fun k i => if k = 12 ∧ (i / 8 = a * 8 + b ∨ i / 8 = b * 8 + a) then f (i % 8) else D k i
theorem dST_ne {D : sto} {a b : Int} {f : Int → Int} {k i : Int} (h : k ≠ 12) : dST D a b f k i = D k i := if_neg (fun q => h q.1)
theorem tk_dST {D : sto} {a b x y h : Int} {f : Int → Int} (a0 : 0 ≤ a) (a1 : a < 8) (b0 : 0 ≤ b) (b1 : b < 8) (x0 : 0 ≤ x) (x1 : x < 8) (y0 : 0 ≤ y) (y1 : y < 8) (h0 : 0 ≤ h) (h1 : h < 8) : tk (dST D a b f) x y h = if (x = a ∧ y = b) ∨ (x = b ∧ y = a) then f h else tk D x y h := by
  unfold tk dST
  have e1 : ((x * 8 + y) * 8 + h) / 8 = x * 8 + y := by omega
  have e2 : ((x * 8 + y) * 8 + h) % 8 = h := by omega
  rw [e1, e2]
  by_cases q : (x = a ∧ y = b) ∨ (x = b ∧ y = a)
  · rw [if_pos q, if_pos ⟨rfl, by omega⟩]
  · rw [if_neg q, if_neg (fun z => q (by have := z.2; omega))]
theorem dST_back {D : sto} {a b : Int} {f g : Int → Int} (hS : SOK D) (a0 : 0 ≤ a) (a1 : a < 8) (b0 : 0 ≤ b) (b1 : b < 8) (hg : ∀ h, 0 ≤ h → h < 8 → g h = tk D a b h) : dST (dST D a b f) a b g = D := by
  funext k i
  unfold dST
  by_cases q : k = 12 ∧ (i / 8 = a * 8 + b ∨ i / 8 = b * 8 + a)
  · rw [if_pos q, hg _ (by omega) (by omega), q.1]
    rcases q.2 with e | e
    · unfold tk
      rw [← e]
      congr 1
      omega
    · rw [(hS a b a0 a1 b0 b1).1 _ (by omega) (by omega)]
      unfold tk
      rw [← e]
      congr 1
      omega
  · rw [if_neg q, if_neg q]
theorem SOK_dST {D : sto} {a b : Int} {f : Int → Int} (hS : SOK D) (a0 : 0 ≤ a) (a1 : a < 8) (b0 : 0 ≤ b) (b1 : b < 8) (hab : a ≠ b) (hf : (∀ h, 0 ≤ h → h < 8 → f h = 0) ∨ (∀ h, 0 ≤ h → h < 8 → 1 ≤ f h ∧ f h ≤ 99)) : SOK (dST D a b f) := by
  intro x y x0 x1 y0 y1
  obtain ⟨h1, h2, h3⟩ := hS x y x0 x1 y0 y1
  have e1 : ∀ h, 0 ≤ h → h < 8 → tk (dST D a b f) x y h = if (x = a ∧ y = b) ∨ (x = b ∧ y = a) then f h else tk D x y h := fun h g0 g1 => tk_dST a0 a1 b0 b1 x0 x1 y0 y1 g0 g1
  have e2 : ∀ h, 0 ≤ h → h < 8 → tk (dST D a b f) y x h = if (y = a ∧ x = b) ∨ (y = b ∧ x = a) then f h else tk D y x h := fun h g0 g1 => tk_dST a0 a1 b0 b1 y0 y1 x0 x1 g0 g1
  by_cases q : (x = a ∧ y = b) ∨ (x = b ∧ y = a)
  · refine ⟨fun h g0 g1 => by rw [e1 h g0 g1, e2 h g0 g1, if_pos q, if_pos (by omega)], ?_, fun e => by omega⟩
    rcases hf with hf | hf
    · exact Or.inl (fun h g0 g1 => by rw [e1 h g0 g1, if_pos q]; exact hf h g0 g1)
    · exact Or.inr (fun h g0 g1 => by rw [e1 h g0 g1, if_pos q]; exact hf h g0 g1)
  · refine ⟨fun h g0 g1 => by rw [e1 h g0 g1, e2 h g0 g1, if_neg q, if_neg (by omega)]; exact h1 h g0 g1, ?_, fun e h g0 g1 => by rw [e1 h g0 g1, if_neg q]; exact h3 e h g0 g1⟩
    rcases h2 with hf | hf
    · exact Or.inl (fun h g0 g1 => by rw [e1 h g0 g1, if_neg q]; exact hf h g0 g1)
    · exact Or.inr (fun h g0 g1 => by rw [e1 h g0 g1, if_neg q]; exact hf h g0 g1)
/-- a street told anew: what the town keeps is right again -/
theorem TC.told {σ σ' D : sto} {a b B : Int} {f : Int → Int} (hT : TC σ D B) (a0 : 0 ≤ a) (a1 : a < 8) (b0 : 0 ≤ b) (b1 : b < 8) (h35 : σ' 3 5 = σ 3 5 + 1) (h8 : ∀ i, σ' 8 i = σ 8 i) (hl : ∀ h, 0 ≤ h → h < 8 → σ' 5 ((a * 8 + b) * 8 + h) = lat f (h + 1) ∧ σ' 5 ((b * 8 + a) * 8 + h) = lat f (h + 1)) (ho : ∀ i, i / 8 ≠ a * 8 + b → i / 8 ≠ b * 8 + a → σ' 5 i = σ 5 i) : TC σ' (dST D a b f) (B + 1) := by
  obtain ⟨⟨g0, g1⟩, hL, hlb, hc⟩ := hT
  refine ⟨⟨by omega, by omega⟩, fun x y h x0 x1 y0 y1 h0 h1 hne => ?_, fun s s0 s1 => ?_, fun x m p x0 x1 m0 m1 p0 p1 hlab => ?_⟩
  · have e1 : ∀ h, 0 ≤ h → h < 8 → tk (dST D a b f) x y h = if (x = a ∧ y = b) ∨ (x = b ∧ y = a) then f h else tk D x y h := fun h g0 g1 => tk_dST a0 a1 b0 b1 x0 x1 y0 y1 g0 g1
    by_cases q : (x = a ∧ y = b) ∨ (x = b ∧ y = a)
    · rw [lat_congr (g := f) (fun k k0 k1 => by rw [e1 k k0 k1, if_pos q]) (h + 1) (by omega) (by omega)]
      rcases q with ⟨rfl, rfl⟩ | ⟨rfl, rfl⟩
      · exact (hl h h0 h1).1
      · exact (hl h h0 h1).2
    · rw [e1 h h0 h1, if_neg q] at hne
      rw [lat_congr (g := tk D x y) (fun k k0 k1 => by rw [e1 k k0 k1, if_neg q]) (h + 1) (by omega) (by omega), ho _ (by omega) (by omega)]
      exact hL x y h x0 x1 y0 y1 h0 h1 hne
  · rw [h8, h35]
    have := hlb s s0 s1
    omega
  · rw [h8, h35] at hlab
    have := hlb (x * 64 + m % 64) (by omega) (by omega)
    omega
theorem lat_r {f : Int → Int} (hf : ∀ h, 0 ≤ h → h < 8 → 0 ≤ f h ∧ f h ≤ 99) : ∀ h : Int, 0 ≤ h → h ≤ 8 → 0 ≤ lat f h ∧ lat f h ≤ 1000000 := by
  have key : ∀ n : Nat, ∀ k : Int, 0 ≤ k → k ≤ 8 → (8 - k).toNat = n → 0 ≤ lat f k ∧ lat f k ≤ 1000000 := by
    intro n
    induction n with
    | zero =>
      intro k k0 k1 hn
      have e : k = 8 := by omega
      rw [e, lat_8]; omega
    | succ n ih =>
      intro k k0 k1 hn
      have h1 := ih (k + 1) (by omega) (by omega) (by omega)
      have h2 := hf k k0 (by omega)
      rw [lat_step k0 (by omega)]
      split <;> omega
  exact fun k k0 k1 => key _ k k0 k1 rfl
theorem lp_reckon {σ0 : sto} {a b : Int} {f : Int → Int} (a0 : 0 ≤ a) (a1 : a < 8) (b0 : 0 ≤ b) (b1 : b < 8) (hf : ∀ h, 0 ≤ h → h < 8 → σ0 4 ((a * 8 + b) * 8 + h) = f h ∧ 0 ≤ f h ∧ f h ≤ 99) {lev : Nat} : ∀ k, 0 ≤ k → k ≤ 8 → ∀ σ : sto, (∀ c i, c ≠ 5 → σ c i = σ0 c i) → (∀ h, 7 - k < h → h < 8 → σ 5 ((a * 8 + b) * 8 + h) = lat f (h + 1) ∧ σ 5 ((b * 8 + a) * 8 + h) = lat f (h + 1)) → (∀ i, i / 8 ≠ a * 8 + b → i / 8 ≠ b * 8 + a → σ 5 i = σ0 5 i) → Run M_Town_reckon (rxV (lev + 2) (fun σ' => σ' 3 5 = σ0 3 5 + 1 ∧ (∀ c i, c ≠ 3 → c ≠ 5 → σ' c i = σ0 c i) ∧ (∀ h, 0 ≤ h → h < 8 → σ' 5 ((a * 8 + b) * 8 + h) = lat f (h + 1) ∧ σ' 5 ((b * 8 + a) * 8 + h) = lat f (h + 1)) ∧ ∀ i, i / 8 ≠ a * 8 + b → i / 8 ≠ b * 8 + a → σ' 5 i = σ0 5 i)) (0, 0) 7 [vR 3, vI a, vI b, vI (lat f (8 - k)), vI (7 - k)] [] (sg σ) := by
  have hlr := lat_r (f := f) (fun h h0 h1 => (hf h h0 h1).2)
  refine up_ind (b := 8) ?_ ?_
  · intro σ hF hl ho
    refine r_iload 4 d_Town_reckon_7 rfl ?_
    refine r_if_lt 67 d_Town_reckon_9 rfl (by omega) (fun h9 => ?_) (fun h9 => absurd h9 (by omega))
    refine r_aload_n 0 d_Town_reckon_67 rfl rfl ?_
    refine r_dup d_Town_reckon_68 rfl ?_
    refine r_getI 5 d_Town_reckon_69 fk_Town_27 rfl rfl rfl ?_
    refine r_iconst d_Town_reckon_72 ?_
    refine r_iadd d_Town_reckon_73 ?_
    refine r_putI 5 d_Town_reckon_74 fk_Town_27 rfl rfl rfl (Or.inl rfl) ?_
    refine q_vret d_Town_reckon_77 rfl ?_
    refine ⟨by rw [wr_eq, hF 3 5 (by omega)], fun c i h3 h5 => by rw [wr_ne (Or.inl h3), hF c i h5], fun h h0 h1 => ?_, fun i h1 h2 => by rw [wr_ne (Or.inl (by omega))]; exact ho i h1 h2⟩
    rw [wr_ne (Or.inl (by omega)), wr_ne (Or.inl (by omega))]
    exact hl h (by omega) h1
  · intro k k0 k1 ih σ hF hl ho
    have hlk := hlr (8 - k) (by omega) (by omega)
    have hfk := hf (7 - k) (by omega) (by omega)
    have e4 : ∀ v1 v2 i1 i2, wr (wr σ 5 i1 v1) 5 i2 v2 4 ((a * 8 + b) * 8 + (7 - k)) = f (7 - k) := fun v1 v2 i1 i2 => by rw [wr_ne (Or.inl (by omega)), wr_ne (Or.inl (by omega)), hF 4 _ (by omega)]; exact hfk.1
    refine r_iload 4 d_Town_reckon_7 rfl ?_
    refine r_if_lt 67 d_Town_reckon_9 rfl (by omega) (fun h9 => absurd h9 (by omega)) (fun h9 => ?_)
    refine r_aload_n 0 d_Town_reckon_12 rfl rfl ?_
    refine r_getR 5 d_Town_reckon_13 fk_Town_15 rfl rfl rfl (by decide) ?_
    refine r_aload_n 0 d_Town_reckon_16 rfl rfl ?_
    refine r_iload_n 1 d_Town_reckon_17 rfl rfl ?_
    refine r_iload_n 2 d_Town_reckon_18 rfl rfl ?_
    refine r_cVP 4 d_Town_reckon_19 lk_Town_31 vc_Town_first ct_first rfl rfl rfl rfl ⟨Nat.le_of_ble_eq_true rfl, Nat.le_of_ble_eq_true rfl⟩ ⟨Nat.zero_le _, Nat.zero_le _⟩ (Nat.le_of_ble_eq_true rfl) ?_
    refine r_iload 4 d_Town_reckon_22 rfl ?_
    refine r_iadd d_Town_reckon_24 ?_
    refine r_iload_n 3 d_Town_reckon_25 rfl rfl ?_
    refine r_iast 512 d_Town_reckon_26 rfl rfl (by omega) (by omega) ?_
    refine r_aload_n 0 d_Town_reckon_27 rfl rfl ?_
    refine r_getR 5 d_Town_reckon_28 fk_Town_15 rfl rfl rfl (by decide) ?_
    refine r_aload_n 0 d_Town_reckon_31 rfl rfl ?_
    refine r_iload_n 2 d_Town_reckon_32 rfl rfl ?_
    refine r_iload_n 1 d_Town_reckon_33 rfl rfl ?_
    refine r_cVP 4 d_Town_reckon_34 lk_Town_31 vc_Town_first ct_first rfl rfl rfl rfl ⟨Nat.le_of_ble_eq_true rfl, Nat.le_of_ble_eq_true rfl⟩ ⟨Nat.zero_le _, Nat.zero_le _⟩ (Nat.le_of_ble_eq_true rfl) ?_
    refine r_iload 4 d_Town_reckon_37 rfl ?_
    refine r_iadd d_Town_reckon_39 ?_
    refine r_iload_n 3 d_Town_reckon_40 rfl rfl ?_
    refine r_iast 512 d_Town_reckon_41 rfl rfl (by omega) (by omega) ?_
    refine r_iload_n 3 d_Town_reckon_42 rfl rfl ?_
    refine r_iload 4 d_Town_reckon_43 rfl ?_
    refine r_bipush d_Town_reckon_45 (by decide) ?_
    refine r_imul d_Town_reckon_47 ?_
    refine r_aload_n 0 d_Town_reckon_48 rfl rfl ?_
    refine r_iload_n 1 d_Town_reckon_49 rfl rfl ?_
    refine r_iload_n 2 d_Town_reckon_50 rfl rfl ?_
    refine r_iload 4 d_Town_reckon_51 rfl ?_
    refine r_cVP 4 d_Town_reckon_53 lk_Town_46 vc_Town_minutes (ct_minutes a0 a1 b0 b1 (by omega) (by omega)) rfl rfl rfl rfl ⟨Nat.le_of_ble_eq_true rfl, Nat.le_of_ble_eq_true rfl⟩ ⟨Nat.zero_le _, Nat.zero_le _⟩ (Nat.le_of_ble_eq_true rfl) ?_
    refine r_iadd d_Town_reckon_56 ?_
    rw [e4]
    refine r_min d_Town_reckon_57 lk_Town_50 (by omega) (by omega) (Nat.le_of_ble_eq_true rfl) (Nat.le_of_ble_eq_true rfl) ⟨Nat.zero_le _, Nat.zero_le _⟩ ?_
    refine r_istore_n 3 d_Town_reckon_60 rfl (by decide) rfl ?_
    refine r_iinc 4 d_Town_reckon_61 rfl (by decide) rfl ?_
    refine r_goto 7 d_Town_reckon_64 rfl ?_
    have e1 : 7 - k + -1 = 7 - (k + 1) := by omega
    have e2 : (if (7 - k) * 60 + f (7 - k) < lat f (8 - k) then (7 - k) * 60 + f (7 - k) else lat f (8 - k)) = lat f (8 - (k + 1)) := by rw [show 8 - (k + 1) = 7 - k by omega, lat_step (h := 7 - k) (by omega) (by omega), show 7 - k + 1 = 8 - k by omega]
    rw [e2, e1]
    refine ih _ (fun c i hc => by rw [wr_ne (Or.inl hc), wr_ne (Or.inl hc)]; exact hF c i hc) (fun h h0 h1 => ?_) (fun i h1 h2 => by rw [wr_ne (by omega), wr_ne (by omega)]; exact ho i h1 h2)
    by_cases e : h = 7 - k
    · rw [e, show 7 - k + 1 = 8 - k by omega, wr_eq]
      refine ⟨?_, rfl⟩
      by_cases q : a = b
      · rw [q, wr_eq]
      · rw [wr_ne (by omega), wr_eq]
    · rw [wr_ne (by omega), wr_ne (by omega), wr_ne (by omega), wr_ne (by omega)]; exact hl h (by omega) h1
theorem ct_reckon {σ0 : sto} {a b : Int} {f : Int → Int} (a0 : 0 ≤ a) (a1 : a < 8) (b0 : 0 ≤ b) (b1 : b < 8) (hf : ∀ h, 0 ≤ h → h < 8 → σ0 4 ((a * 8 + b) * 8 + h) = f h ∧ 0 ≤ f h ∧ f h ≤ 99) : CV M_Town_reckon 2 [vR 3, vI a, vI b] σ0 (fun σ' => σ' 3 5 = σ0 3 5 + 1 ∧ (∀ c i, c ≠ 3 → c ≠ 5 → σ' c i = σ0 c i) ∧ (∀ h, 0 ≤ h → h < 8 → σ' 5 ((a * 8 + b) * 8 + h) = lat f (h + 1) ∧ σ' 5 ((b * 8 + a) * 8 + h) = lat f (h + 1)) ∧ ∀ i, i / 8 ≠ a * 8 + b → i / 8 ≠ b * 8 + a → σ' 5 i = σ0 5 i) := by
  refine cv_of [vR 3, vI a, vI b, vU, vU] fy_Town_reckon.1 rfl (Nat.le_of_ble_eq_true rfl) ?_
  refine r_ldc kc_Town_45 d_Town_reckon_0 ?_
  refine r_istore_n 3 d_Town_reckon_2 rfl (by decide) rfl ?_
  refine r_bipush d_Town_reckon_3 (by decide) ?_
  refine r_istore 4 d_Town_reckon_5 (by decide) rfl ?_
  exact lp_reckon (lev := 0) a0 a1 b0 b1 hf 0 (by omega) (by omega) σ0 (fun _ _ _ => rfl) (fun h h0 h1 => by omega) (fun _ _ _ => rfl)
theorem ct_setHour {D σ : sto} {a b B h m : Int} (hS : SOK D) (hD : ∀ i, 0 ≤ i → i < 512 → D 12 i = σ 4 i) (hT : TC σ D B) (a0 : 0 ≤ a) (a1 : a < 8) (b0 : 0 ≤ b) (b1 : b < 8) (hab : a ≠ b) (h0 : 0 ≤ h) (h1 : h < 8) (m0 : 0 ≤ m) (m1 : m ≤ 99) : CV M_Town_setHour 3 [vR 3, vI a, vI b, vI h, vI m] σ (fun σ' => (∀ i, 0 ≤ i → i < 512 → dST D a b (fun g => if g = h then m else tk D a b g) 12 i = σ' 4 i) ∧ TC σ' (dST D a b (fun g => if g = h then m else tk D a b g)) (B + 1) ∧ ∀ c i, c ≠ 3 → c ≠ 4 → c ≠ 5 → σ' c i = σ c i) := by
  have hsym := (hS a b a0 a1 b0 b1).1
  have hab4 : ∀ g, 0 ≤ g → g < 8 → wr (wr σ 4 ((a * 8 + b) * 8 + h) m) 4 ((b * 8 + a) * 8 + h) m 4 ((a * 8 + b) * 8 + g) = (if g = h then m else tk D a b g) := fun g g0 g1 => by
    rw [wr_ne (by omega)]
    by_cases e : g = h
    · rw [if_pos e, e, wr_eq]
    · rw [if_neg e, wr_ne (by omega), ← hD _ (by omega) (by omega)]; rfl
  have htb : ∀ g, 0 ≤ g → g < 8 → 0 ≤ (if g = h then m else tk D a b g) ∧ (if g = h then m else tk D a b g) ≤ 99 := fun g g0 g1 => by
    rcases (hS a b a0 a1 b0 b1).2.1 with q | q <;> have := q g g0 g1 <;> split <;> omega
  refine cv_of [vR 3, vI a, vI b, vI h, vI m] fy_Town_setHour.1 rfl (Nat.le_of_ble_eq_true rfl) ?_
  refine r_aload_n 0 d_Town_setHour_0 rfl rfl ?_
  refine r_getR 4 d_Town_setHour_1 fk_Town_9 rfl rfl rfl (by decide) ?_
  refine r_aload_n 0 d_Town_setHour_4 rfl rfl ?_
  refine r_iload_n 1 d_Town_setHour_5 rfl rfl ?_
  refine r_iload_n 2 d_Town_setHour_6 rfl rfl ?_
  refine r_cVP 4 d_Town_setHour_7 lk_Town_31 vc_Town_first ct_first rfl rfl rfl rfl ⟨Nat.le_of_ble_eq_true rfl, Nat.le_of_ble_eq_true rfl⟩ ⟨Nat.zero_le _, Nat.zero_le _⟩ (Nat.le_of_ble_eq_true rfl) ?_
  refine r_iload_n 3 d_Town_setHour_10 rfl rfl ?_
  refine r_iadd d_Town_setHour_11 ?_
  refine r_iload 4 d_Town_setHour_12 rfl ?_
  refine r_iast 512 d_Town_setHour_14 rfl rfl (by omega) (by omega) ?_
  refine r_aload_n 0 d_Town_setHour_15 rfl rfl ?_
  refine r_getR 4 d_Town_setHour_16 fk_Town_9 rfl rfl rfl (by decide) ?_
  refine r_aload_n 0 d_Town_setHour_19 rfl rfl ?_
  refine r_iload_n 2 d_Town_setHour_20 rfl rfl ?_
  refine r_iload_n 1 d_Town_setHour_21 rfl rfl ?_
  refine r_cVP 4 d_Town_setHour_22 lk_Town_31 vc_Town_first ct_first rfl rfl rfl rfl ⟨Nat.le_of_ble_eq_true rfl, Nat.le_of_ble_eq_true rfl⟩ ⟨Nat.zero_le _, Nat.zero_le _⟩ (Nat.le_of_ble_eq_true rfl) ?_
  refine r_iload_n 3 d_Town_setHour_25 rfl rfl ?_
  refine r_iadd d_Town_setHour_26 ?_
  refine r_iload 4 d_Town_setHour_27 rfl ?_
  refine r_iast 512 d_Town_setHour_29 rfl rfl (by omega) (by omega) ?_
  refine r_aload_n 0 d_Town_setHour_30 rfl rfl ?_
  refine r_iload_n 1 d_Town_setHour_31 rfl rfl ?_
  refine r_iload_n 2 d_Town_setHour_32 rfl rfl ?_
  refine r_cVV 4 d_Town_setHour_33 lk_Town_35 vc_Town_reckon (ct_reckon (f := (fun g => if g = h then m else tk D a b g)) a0 a1 b0 b1 (fun g g0 g1 => ⟨hab4 g g0 g1, htb g g0 g1⟩)) rfl rfl rfl rfl ⟨Nat.le_of_ble_eq_true rfl, Nat.le_of_ble_eq_true rfl⟩ ⟨Nat.zero_le _, Nat.zero_le _⟩ (Nat.le_of_ble_eq_true rfl) (fun s33 q33 => ?_)
  obtain ⟨r1, r2, r3, r4⟩ := q33
  refine q_vret d_Town_setHour_36 rfl ?_
  refine ⟨fun i i0 i1 => ?_, hT.told a0 a1 b0 b1 (by rw [r1, wr_ne (by omega), wr_ne (by omega)]) (fun i => by rw [r2 8 i (by omega) (by omega), wr_ne (by omega), wr_ne (by omega)]) r3 (fun i e1 e2 => by rw [r4 i e1 e2, wr_ne (by omega), wr_ne (by omega)]), fun c i h3 h4 h5 => by rw [r2 c i h3 h5, wr_ne (Or.inl h4), wr_ne (Or.inl h4)]⟩
  rw [r2 4 i (by omega) (by omega)]
  unfold dST
  by_cases q : (12 : Int) = 12 ∧ (i / 8 = a * 8 + b ∨ i / 8 = b * 8 + a)
  · rw [if_pos q]
    rcases q.2 with e | e
    · have e2 := hab4 (i % 8) (by omega) (by omega)
      rw [show (a * 8 + b) * 8 + i % 8 = i by omega] at e2
      exact e2.symm
    · by_cases g : i % 8 = h
      · show (if i % 8 = h then m else _) = _
        rw [if_pos g, show i = (b * 8 + a) * 8 + h by omega, wr_eq]
      · show (if i % 8 = h then m else _) = _
        rw [if_neg g, wr_ne (by omega), wr_ne (by omega), ← hD i i0 i1, hsym _ (by omega) (by omega)]
        unfold tk
        congr 1
        omega
  · rw [if_neg q, wr_ne (by omega), wr_ne (by omega)]; exact hD i i0 i1
theorem ct_setDay {D σ : sto} {a b B m : Int} (hS : SOK D) (hD : ∀ i, 0 ≤ i → i < 512 → D 12 i = σ 4 i) (hT : TC σ D B) (a0 : 0 ≤ a) (a1 : a < 8) (b0 : 0 ≤ b) (b1 : b < 8) (hab : a ≠ b) (m0 : 0 ≤ m) (m1 : m ≤ 99) : CV M_Town_setDay 3 [vR 3, vI a, vI b, vI m] σ (fun σ' => (∀ i, 0 ≤ i → i < 512 → dST D a b (fun _ => m) 12 i = σ' 4 i) ∧ TC σ' (dST D a b (fun _ => m)) (B + 1) ∧ ∀ c i, c ≠ 3 → c ≠ 4 → c ≠ 5 → σ' c i = σ c i) := by
  refine cv_of [vR 3, vI a, vI b, vI m, vU] fy_Town_setDay.1 rfl (Nat.le_of_ble_eq_true rfl) ?_
  refine r_iconst d_Town_setDay_0 ?_
  refine r_istore 4 d_Town_setDay_1 (by decide) rfl ?_
  have key : ∀ x, 0 ≤ x → x ≤ 8 → ∀ σ1 : sto, (∀ c i, c ≠ 4 → σ1 c i = σ c i) → (∀ i, 0 ≤ i → i < 512 → σ1 4 i = if (i / 8 = a * 8 + b ∨ i / 8 = b * 8 + a) ∧ i % 8 < x then m else σ 4 i) → Run M_Town_setDay (rxV 3 (fun σ' => (∀ i, 0 ≤ i → i < 512 → dST D a b (fun _ => m) 12 i = σ' 4 i) ∧ TC σ' (dST D a b (fun _ => m)) (B + 1) ∧ ∀ c i, c ≠ 3 → c ≠ 4 → c ≠ 5 → σ' c i = σ c i)) (0, 0) 3 [vR 3, vI a, vI b, vI m, vI x] [] (sg σ1) := by
    refine up_ind (b := 8) ?_ ?_
    · intro σ1 hF h4
      refine r_iload 4 d_Town_setDay_3 rfl ?_
      refine r_bipush d_Town_setDay_5 (by decide) ?_
      refine r_icmp_ge 46 d_Town_setDay_7 rfl (by omega) (by omega) (fun h7 => ?_) (fun h7 => absurd h7 (by omega))
      refine r_aload_n 0 d_Town_setDay_46 rfl rfl ?_
      refine r_iload_n 1 d_Town_setDay_47 rfl rfl ?_
      refine r_iload_n 2 d_Town_setDay_48 rfl rfl ?_
      refine r_cVV 4 d_Town_setDay_49 lk_Town_35 vc_Town_reckon (ct_reckon (f := fun _ => m) a0 a1 b0 b1 (fun g g0 g1 => ⟨by rw [h4 _ (by omega) (by omega), if_pos (by omega)], m0, m1⟩)) rfl rfl rfl rfl ⟨Nat.le_of_ble_eq_true rfl, Nat.le_of_ble_eq_true rfl⟩ ⟨Nat.zero_le _, Nat.zero_le _⟩ (Nat.le_of_ble_eq_true rfl) (fun s49 q49 => ?_)
      obtain ⟨r1, r2, r3, r4⟩ := q49
      refine q_vret d_Town_setDay_52 rfl ?_
      refine ⟨fun i i0 i1 => ?_, hT.told a0 a1 b0 b1 (by rw [r1, hF 3 5 (by omega)]) (fun i => by rw [r2 8 i (by omega) (by omega), hF 8 i (by omega)]) r3 (fun i e1 e2 => by rw [r4 i e1 e2, hF 5 i (by omega)]), fun c i h3 h4 h5 => by rw [r2 c i h3 h5, hF c i h4]⟩
      rw [r2 4 i (by omega) (by omega), h4 i i0 i1]
      unfold dST
      by_cases q : (i / 8 = a * 8 + b ∨ i / 8 = b * 8 + a)
      · rw [if_pos ⟨rfl, q⟩, if_pos ⟨q, by omega⟩]
      · rw [if_neg (fun z => q z.2), if_neg (fun z => q z.1)]; exact hD i i0 i1
    · intro x x0 x1 ih σ1 hF h4
      refine r_iload 4 d_Town_setDay_3 rfl ?_
      refine r_bipush d_Town_setDay_5 (by decide) ?_
      refine r_icmp_ge 46 d_Town_setDay_7 rfl (by omega) (by omega) (fun h7 => absurd h7 (by omega)) (fun h7 => ?_)
      refine r_aload_n 0 d_Town_setDay_10 rfl rfl ?_
      refine r_getR 4 d_Town_setDay_11 fk_Town_9 rfl rfl rfl (by decide) ?_
      refine r_aload_n 0 d_Town_setDay_14 rfl rfl ?_
      refine r_iload_n 1 d_Town_setDay_15 rfl rfl ?_
      refine r_iload_n 2 d_Town_setDay_16 rfl rfl ?_
      refine r_cVP 4 d_Town_setDay_17 lk_Town_31 vc_Town_first ct_first rfl rfl rfl rfl ⟨Nat.le_of_ble_eq_true rfl, Nat.le_of_ble_eq_true rfl⟩ ⟨Nat.zero_le _, Nat.zero_le _⟩ (Nat.le_of_ble_eq_true rfl) ?_
      refine r_iload 4 d_Town_setDay_20 rfl ?_
      refine r_iadd d_Town_setDay_22 ?_
      refine r_iload_n 3 d_Town_setDay_23 rfl rfl ?_
      refine r_iast 512 d_Town_setDay_24 rfl rfl (by omega) (by omega) ?_
      refine r_aload_n 0 d_Town_setDay_25 rfl rfl ?_
      refine r_getR 4 d_Town_setDay_26 fk_Town_9 rfl rfl rfl (by decide) ?_
      refine r_aload_n 0 d_Town_setDay_29 rfl rfl ?_
      refine r_iload_n 2 d_Town_setDay_30 rfl rfl ?_
      refine r_iload_n 1 d_Town_setDay_31 rfl rfl ?_
      refine r_cVP 4 d_Town_setDay_32 lk_Town_31 vc_Town_first ct_first rfl rfl rfl rfl ⟨Nat.le_of_ble_eq_true rfl, Nat.le_of_ble_eq_true rfl⟩ ⟨Nat.zero_le _, Nat.zero_le _⟩ (Nat.le_of_ble_eq_true rfl) ?_
      refine r_iload 4 d_Town_setDay_35 rfl ?_
      refine r_iadd d_Town_setDay_37 ?_
      refine r_iload_n 3 d_Town_setDay_38 rfl rfl ?_
      refine r_iast 512 d_Town_setDay_39 rfl rfl (by omega) (by omega) ?_
      refine r_iinc 4 d_Town_setDay_40 rfl (by decide) rfl ?_
      refine r_goto 3 d_Town_setDay_43 rfl ?_
      refine ih _ (fun c i hc => by rw [wr_ne (Or.inl hc), wr_ne (Or.inl hc)]; exact hF c i hc) (fun i i0 i1 => ?_)
      by_cases e1 : i = (b * 8 + a) * 8 + x
      · rw [e1, wr_eq, if_pos (by omega)]
      · rw [wr_ne (Or.inr e1)]
        by_cases e2 : i = (a * 8 + b) * 8 + x
        · rw [e2, wr_eq, if_pos (by omega)]
        · rw [wr_ne (Or.inr e2), h4 i i0 i1]
          by_cases q : (i / 8 = a * 8 + b ∨ i / 8 = b * 8 + a) ∧ i % 8 < x
          · rw [if_pos q, if_pos (by omega)]
          · rw [if_neg q, if_neg (by omega)]
  exact key 0 (by omega) (by omega) σ (fun _ _ _ => rfl) (fun i i0 i1 => by rw [if_neg (by omega)])
theorem ct_restore {D σ : sto} {a b B : Int} (hS : SOK D) (hD : ∀ i, 0 ≤ i → i < 512 → D 12 i = σ 4 i) (hT : TC σ D B) (a0 : 0 ≤ a) (a1 : a < 8) (b0 : 0 ≤ b) (b1 : b < 8) (hab : a ≠ b) (h6 : ∀ h, 0 ≤ h → h < 8 → 0 ≤ σ 6 h ∧ σ 6 h ≤ 99) : CV M_Town_restore 3 [vR 3, vI a, vI b] σ (fun σ' => (∀ i, 0 ≤ i → i < 512 → dST D a b (σ 6) 12 i = σ' 4 i) ∧ TC σ' (dST D a b (σ 6)) (B + 1) ∧ ∀ c i, c ≠ 3 → c ≠ 4 → c ≠ 5 → σ' c i = σ c i) := by
  have hc4 : ∀ g, 0 ≤ g → g < 8 → cpy (cpy σ 6 0 4 ((a * 8 + b) * 8) 8) 6 0 4 ((b * 8 + a) * 8) 8 4 ((a * 8 + b) * 8 + g) = σ 6 g := fun g g0 g1 => by
    rw [cpy_ne (by omega), cpy_in (by omega) (by omega)]
    congr 1
    omega
  refine cv_of [vR 3, vI a, vI b] fy_Town_restore.1 rfl (Nat.le_of_ble_eq_true rfl) ?_
  refine r_aload_n 0 d_Town_restore_0 rfl rfl ?_
  refine r_getR 6 d_Town_restore_1 fk_Town_18 rfl rfl rfl (by decide) ?_
  refine r_iconst d_Town_restore_4 ?_
  refine r_aload_n 0 d_Town_restore_5 rfl rfl ?_
  refine r_getR 4 d_Town_restore_6 fk_Town_9 rfl rfl rfl (by decide) ?_
  refine r_aload_n 0 d_Town_restore_9 rfl rfl ?_
  refine r_iload_n 1 d_Town_restore_10 rfl rfl ?_
  refine r_iload_n 2 d_Town_restore_11 rfl rfl ?_
  refine r_cVP 4 d_Town_restore_12 lk_Town_31 vc_Town_first ct_first rfl rfl rfl rfl ⟨Nat.le_of_ble_eq_true rfl, Nat.le_of_ble_eq_true rfl⟩ ⟨Nat.zero_le _, Nat.zero_le _⟩ (Nat.le_of_ble_eq_true rfl) ?_
  refine r_bipush d_Town_restore_15 (by decide) ?_
  refine r_copy 8 512 d_Town_restore_17 lk_Town_39 rfl rfl rfl rfl (by omega) (by omega) (by omega) (by omega) (by omega) (Nat.le_of_ble_eq_true rfl) (Nat.le_of_ble_eq_true rfl) ?_
  refine r_aload_n 0 d_Town_restore_20 rfl rfl ?_
  refine r_getR 6 d_Town_restore_21 fk_Town_18 rfl rfl rfl (by decide) ?_
  refine r_iconst d_Town_restore_24 ?_
  refine r_aload_n 0 d_Town_restore_25 rfl rfl ?_
  refine r_getR 4 d_Town_restore_26 fk_Town_9 rfl rfl rfl (by decide) ?_
  refine r_aload_n 0 d_Town_restore_29 rfl rfl ?_
  refine r_iload_n 2 d_Town_restore_30 rfl rfl ?_
  refine r_iload_n 1 d_Town_restore_31 rfl rfl ?_
  refine r_cVP 4 d_Town_restore_32 lk_Town_31 vc_Town_first ct_first rfl rfl rfl rfl ⟨Nat.le_of_ble_eq_true rfl, Nat.le_of_ble_eq_true rfl⟩ ⟨Nat.zero_le _, Nat.zero_le _⟩ (Nat.le_of_ble_eq_true rfl) ?_
  refine r_bipush d_Town_restore_35 (by decide) ?_
  refine r_copy 8 512 d_Town_restore_37 lk_Town_39 rfl rfl rfl rfl (by omega) (by omega) (by omega) (by omega) (by omega) (Nat.le_of_ble_eq_true rfl) (Nat.le_of_ble_eq_true rfl) ?_
  refine r_aload_n 0 d_Town_restore_40 rfl rfl ?_
  refine r_iload_n 1 d_Town_restore_41 rfl rfl ?_
  refine r_iload_n 2 d_Town_restore_42 rfl rfl ?_
  refine r_cVV 4 d_Town_restore_43 lk_Town_35 vc_Town_reckon (ct_reckon (f := σ 6) a0 a1 b0 b1 (fun g g0 g1 => ⟨hc4 g g0 g1, h6 g g0 g1⟩)) rfl rfl rfl rfl ⟨Nat.le_of_ble_eq_true rfl, Nat.le_of_ble_eq_true rfl⟩ ⟨Nat.zero_le _, Nat.zero_le _⟩ (Nat.le_of_ble_eq_true rfl) (fun s43 q43 => ?_)
  obtain ⟨r1, r2, r3, r4⟩ := q43
  refine q_vret d_Town_restore_46 rfl ?_
  refine ⟨fun i i0 i1 => ?_, hT.told a0 a1 b0 b1 (by rw [r1, cpy_ne (by omega), cpy_ne (by omega)]) (fun i => by rw [r2 8 i (by omega) (by omega), cpy_ne (by omega), cpy_ne (by omega)]) r3 (fun i e1 e2 => by rw [r4 i e1 e2, cpy_ne (by omega), cpy_ne (by omega)]), fun c i h3 h4 h5 => by rw [r2 c i h3 h5, cpy_ne (Or.inl h4), cpy_ne (Or.inl h4)]⟩
  rw [r2 4 i (by omega) (by omega)]
  unfold dST
  by_cases q : i / 8 = b * 8 + a
  · rw [if_pos ⟨rfl, Or.inr q⟩, cpy_in (by omega) (by omega), cpy_ne (Or.inl (by omega))]
    congr 1
    omega
  · rw [cpy_ne (by omega)]
    by_cases q2 : i / 8 = a * 8 + b
    · rw [if_pos ⟨rfl, Or.inl q2⟩, cpy_in (by omega) (by omega)]
      congr 1
      omega
    · rw [if_neg (fun z => z.2.elim q2 q), cpy_ne (by omega)]; exact hD i i0 i1
