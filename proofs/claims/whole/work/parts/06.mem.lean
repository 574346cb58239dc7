-- CELLS: the finished world, its numbers as a function of cell and place
def KD (c : Int) : Nat := if c < 0 then 99 else kdL.getD c.toNat 99
def AL (c : Int) : Int := alL.getD c.toNat 0
def lay (c i : Int) : Int := (layL.getD c.toNat []).getD i.toNat (-1)
def nfc (ci : Nat) : Nat := match classes[ci]? with
  | some q => q.2.2
  | none => 0
abbrev sto : Type := Int → Int → Int
def wr (σ : sto) (c i v : Int) : sto := fun c' i' => if c' = c ∧ i' = i then v else σ c' i'
def ent (X : cx) (σ : sto) (k : Nat) : va_E :=
  if KD k < 9 then .inr (KD k, (List.range (nfc (KD k))).map (fun i => if isI (KD k) i then .int (Int32.ofInt (σ k i)) else .ref (X.2.2.1 + (lay k i).toNat)))
  else if KD k < 11 then .inl (if KD k = 9 then X.2.1.1 else X.2.1.2.1, (AL k).toNat, .inl (fun j => Int32.ofInt (σ k j)))
  else .inl (if KD k = 11 then X.2.1.2.2.1 else X.2.1.2.2.2, (AL k).toNat, .inr (.inr (.inr (.inr (fun j => some (X.2.2.1 + (lay k j).toNat))))))
def wl (X : cx) (σ : sto) : va_W := (List.range 198).map (fun k => (X.2.2.1 + k, ent X σ k))
/-- the finished world -/
def sg (σ : sto) : hpd := fun X H => va_P X.1 classes (wl X σ) H
theorem KD_lt {c : Int} {k : Nat} (h : KD c = k) (hk : k < 99) : ∃ n : Nat, c = n ∧ n < 198 := by
  unfold KD at h
  by_cases h0 : c < 0
  · rw [if_pos h0] at h; omega
  · rw [if_neg h0] at h
    refine ⟨c.toNat, by omega, ?_⟩
    rcases Nat.lt_or_ge c.toNat 198 with q | q
    · exact q
    · rw [List.getD_eq_getElem?_getD, List.getElem?_eq_none (Nat.le_trans (show kdL.length ≤ 198 by decide +kernel) q)] at h
      simp at h
      omega
theorem AL_le (c : Int) : AL c ≤ 4096 := by
  unfold AL
  rcases Nat.lt_or_ge c.toNat alL.length with q | q
  · rw [List.getD_eq_getElem?_getD, List.getElem?_eq_getElem q]
    have h : ∀ x ∈ alL, x ≤ 4096 := by decide +kernel
    exact h _ (List.getElem_mem q)
  · rw [List.getD_eq_getElem?_getD, List.getElem?_eq_none q]
    decide
theorem wl_at (X : cx) (σ : sto) {n : Nat} (hn : n < 198) : (wl X σ)[n]? = some (X.2.2.1 + n, ent X σ n) := by
  simp [wl, List.getElem?_range hn]
theorem wl_set {X : cx} {σ σ' : sto} {n : Nat} {e : va_E} (ho : ∀ k : Nat, k ≠ n → ent X σ' k = ent X σ k) (he : ent X σ' n = e) : (wl X σ).set n (X.2.2.1 + n, e) = wl X σ' := by
  apply List.ext_getElem?
  intro k
  by_cases hk : k < 198
  · rw [wl_at X σ' hk]
    by_cases h : k = n
    · subst h
      rw [List.getElem?_set_self (by simpa [wl] using hk), he]
    · rw [List.getElem?_set_ne (fun q => h q.symm), wl_at X σ hk, ho k h]
  · rw [List.getElem?_eq_none (by simp [wl]; omega), List.getElem?_eq_none (by simp [wl]; omega)]
theorem wl_D (X : cx) (σ : sto) : va_D (fun q => X.2.2.1 ≤ q) (wl X σ) := by
  have key : ∀ (k : Nat) (q : Nat × va_E), (wl X σ)[k]? = some q → q.1 = X.2.2.1 + k := by
    intro k q h
    by_cases hk : k < 198
    · rw [wl_at X σ hk] at h
      cases h
      rfl
    · rw [List.getElem?_eq_none (by simp [wl]; omega)] at h
      cases h
  refine ⟨fun i j p q hi hj h => ?_, fun k q h => ?_⟩
  · rw [key i p hi, key j q hj] at h
    omega
  · rw [key k q h]
    omega
theorem ent_ne {X : cx} {σ : sto} {n : Nat} {i v : Int} {k : Nat} (h : k ≠ n) : ent X (wr σ n i v) k = ent X σ k := by
  have hf : ∀ j : Int, wr σ n i v k j = σ k j := fun j => by
    unfold wr
    rw [if_neg]
    intro q
    exact h (by have := q.1; omega)
  unfold ent
  simp only [hf]
theorem ent_arr {X : cx} {σ : sto} {n : Nat} (h : KD n = 9) : ent X σ n = .inl (X.2.1.1, (AL n).toNat, .inl (fun j => Int32.ofInt (σ n j))) := by
  unfold ent
  rw [h]
  rfl
theorem ent_bool {X : cx} {σ : sto} {n : Nat} (h : KD n = 10) : ent X σ n = .inl (X.2.1.2.1, (AL n).toNat, .inl (fun j => Int32.ofInt (σ n j))) := by
  unfold ent
  rw [h]
  rfl
theorem ent_obj {X : cx} {σ : sto} {n ci : Nat} (h : KD n = ci) (hc : ci < 9) : ent X σ n = .inr (ci, (List.range (nfc ci)).map (fun i => if isI ci i then .int (Int32.ofInt (σ n i)) else .ref (X.2.2.1 + (lay n i).toNat))) := by
  unfold ent
  rw [h, if_pos hc]
theorem wr_upd {σ : sto} {n : Nat} {i v : Int} (h0 : 0 ≤ i) : (fun j : Nat => Int32.ofInt (wr σ n i v n j)) = upd (fun j : Nat => Int32.ofInt (σ n j)) i.toNat (Int32.ofInt v) := by
  funext j
  unfold wr upd
  by_cases h : j = i.toNat
  · rw [if_pos h, if_pos ⟨rfl, by omega⟩]
  · rw [if_neg h, if_neg (fun q => h (by have := q.2; omega))]
theorem nfc_of {ci : Nat} {C : String} {T : u_T} {N : Nat} (h : classes[ci]? = some (C, T, N)) : nfc ci = N ∧ ci < 9 := by
  refine ⟨?_, (List.getElem?_eq_some_iff.mp h).1⟩
  unfold nfc
  rw [h]
section MEM
variable {M : mi} {Rx : rx} {kz : Nat × Nat} {pc : Nat} {ls st : List av} {σ : sto}
theorem r_getI {idx ci k : Nat} {fin : Bool} {ty : FieldType} {c : Int} (ki : Int) (hd : decode M.2.1 pc = .ok (.getfield idx, 3)) (hF : FLk M.1.cls idx ci k fin ty) (hk : KD c = ci) (hI : isI ci k = true) (hki : ((k : Nat) : Int) = ki) (kk : Run M Rx kz (pc + 3) ls (vI (σ c ki) :: st) (sg σ)) : Run M Rx kz pc ls (vR c :: st) (sg σ) := by
  intro X p l e s m args below meth cd H locs A hC hE hS hW hL
  obtain ⟨C, T, N, tyf, h1, h2, h3, h4, h5, h6, h7, h8, h9⟩ := hF
  obtain ⟨hn, h10⟩ := nfc_of h1
  obtain ⟨n, rfl, hlt⟩ := KD_lt hk (by omega)
  subst hki
  have he : (wl X σ)[n]? = some (X.2.2.1 + n, .inr (ci, (List.range N).map (fun i => if isI ci i then .int (Int32.ofInt (σ n i)) else .ref (X.2.2.1 + (lay n i).toNat)))) := by rw [wl_at X σ hlt, ent_obj hk h10, hn]
  have hv : ((List.range N).map (fun i => if isI ci i then Value.int (Int32.ofInt (σ n i)) else .ref (X.2.2.1 + (lay n i).toNat)))[k]? = some (.int (Int32.ofInt (σ n k))) := by
    rw [List.getElem?_map, List.getElem?_range h2]
    simp [hI]
  have hg : cv X (vR (n : Int)) = .ref (X.2.2.1 + n) := by
    show Value.ref (if (n : Int) < 0 then _ else _) = _
    rw [if_neg (by omega)]
    simp
  rw [List.map_cons, hg]
  have kk' := kk X p l e s m args below meth cd H locs A hC hE hS hW hL
  rcases h9 with h9 | ⟨host, h9⟩
  · exact va_get hC.1 hC.2.1 hC.2.2.2.2.2.1 h3 hC.2.2.2.2.1 hC.2.2.2.2.2.2.2.1 hW n he h1 k h2 (hC.2.2.2.2.2.1 _ h9) (fun x hx => by rw [h6] at hx; exact hx) hv hd kk'
  · exact va_getN hC.1 hC.2.1 hC.2.2.2.2.2.1 h3 hC.2.2.2.2.1 hC.2.2.2.2.2.2.2.1 hW n he h1 k h2 (hC.2.2.2.2.2.1 _ h9) (fun x hx => by rw [h6] at hx; exact hx) hv hd kk'
theorem r_getR {idx ci k : Nat} {fin : Bool} {ty : FieldType} {c : Int} (r : Int) (hd : decode M.2.1 pc = .ok (.getfield idx, 3)) (hF : FLk M.1.cls idx ci k fin ty) (hk : KD c = ci) (hI : isI ci k = false) (hr : lay c k = r) (hr0 : 0 ≤ r) (kk : Run M Rx kz (pc + 3) ls (vR r :: st) (sg σ)) : Run M Rx kz pc ls (vR c :: st) (sg σ) := by
  intro X p l e s m args below meth cd H locs A hC hE hS hW hL
  obtain ⟨C, T, N, tyf, h1, h2, h3, h4, h5, h6, h7, h8, h9⟩ := hF
  obtain ⟨hn, h10⟩ := nfc_of h1
  obtain ⟨n, rfl, hlt⟩ := KD_lt hk (by omega)
  have he : (wl X σ)[n]? = some (X.2.2.1 + n, .inr (ci, (List.range N).map (fun i => if isI ci i then .int (Int32.ofInt (σ n i)) else .ref (X.2.2.1 + (lay n i).toNat)))) := by rw [wl_at X σ hlt, ent_obj hk h10, hn]
  have hv : ((List.range N).map (fun i => if isI ci i then Value.int (Int32.ofInt (σ n i)) else .ref (X.2.2.1 + (lay n i).toNat)))[k]? = some (.ref (X.2.2.1 + r.toNat)) := by
    rw [List.getElem?_map, List.getElem?_range h2]
    simp [hI, hr]
  have hg : cv X (vR (n : Int)) = .ref (X.2.2.1 + n) := by
    show Value.ref (if (n : Int) < 0 then _ else _) = _
    rw [if_neg (by omega)]
    simp
  have hg2 : cv X (vR r) = .ref (X.2.2.1 + r.toNat) := by
    show Value.ref (if r < 0 then _ else _) = _
    rw [if_neg (by omega)]
  rw [List.map_cons, hg]
  have kk' := kk X p l e s m args below meth cd H locs A hC hE hS hW hL
  rw [List.map_cons, hg2] at kk'
  rcases h9 with h9 | ⟨host, h9⟩
  · exact va_get hC.1 hC.2.1 hC.2.2.2.2.2.1 h3 hC.2.2.2.2.1 hC.2.2.2.2.2.2.2.1 hW n he h1 k h2 (hC.2.2.2.2.2.1 _ h9) (fun x hx => by rw [h6] at hx; exact hx) hv hd kk'
  · exact va_getN hC.1 hC.2.1 hC.2.2.2.2.2.1 h3 hC.2.2.2.2.1 hC.2.2.2.2.2.2.2.1 hW n he h1 k h2 (hC.2.2.2.2.2.1 _ h9) (fun x hx => by rw [h6] at hx; exact hx) hv hd kk'
theorem r_putI {idx ci k : Nat} {ty : FieldType} {c x : Int} (ki : Int) (hd : decode M.2.1 pc = .ok (.putfield idx, 3)) (hF : FLk M.1.cls idx ci k false ty) (hk : KD c = ci) (hI : isI ci k = true) (hki : ((k : Nat) : Int) = ki) (hty : ty = .int ∨ ty = .boolean ∧ (x = 0 ∨ x = 1)) (kk : Run M Rx kz (pc + 3) ls st (sg (wr σ c ki x))) : Run M Rx kz pc ls (vI x :: vR c :: st) (sg σ) := by
  intro X p l e s m args below meth cd H locs A hC hE hS hW hL
  obtain ⟨C, T, N, tyf, h1, h2, h3, h4, h5, h6, h7, h8, h9⟩ := hF
  obtain ⟨hn, h10⟩ := nfc_of h1
  obtain ⟨n, rfl, hlt⟩ := KD_lt hk (by omega)
  subst hki
  have he : (wl X σ)[n]? = some (X.2.2.1 + n, .inr (ci, (List.range N).map (fun i => if isI ci i then .int (Int32.ofInt (σ n i)) else .ref (X.2.2.1 + (lay n i).toNat)))) := by rw [wl_at X σ hlt, ent_obj hk h10, hn]
  have hset : (wl X σ).set n (X.2.2.1 + n, .inr (ci, ((List.range N).map (fun i => if isI ci i then Value.int (Int32.ofInt (σ n i)) else .ref (X.2.2.1 + (lay n i).toNat))).set k (.int (Int32.ofInt x)))) = wl X (wr σ n k x) := by
    refine wl_set (fun q hq => ent_ne hq) ?_
    rw [ent_obj hk h10, hn]
    congr 2
    apply List.ext_getElem?
    intro j
    by_cases hj : j < N
    · rw [List.getElem?_map, List.getElem?_range hj]
      by_cases hjk : j = k
      · subst hjk
        rw [List.getElem?_set_self (by simpa using hj)]
        simp [hI, wr]
      · rw [List.getElem?_set_ne (fun q => hjk q.symm), List.getElem?_map, List.getElem?_range hj]
        have : wr σ n k x n j = σ n j := by
          unfold wr
          rw [if_neg]
          intro q
          exact hjk (by have := q.2; omega)
        simp [this]
    · rw [List.getElem?_eq_none (by simp; omega), List.getElem?_eq_none (by simp; omega)]
  have hg : cv X (vR (n : Int)) = .ref (X.2.2.1 + n) := by
    show Value.ref (if (n : Int) < 0 then _ else _) = _
    rw [if_neg (by omega)]
    simp
  have hpd : parseFieldDescriptor (T k).2.2.1 = some ty := by rw [h4 k h2, h8]
  have hnw : narrow ty (.int (Int32.ofInt x)) = .int (Int32.ofInt x) := by
    rcases hty with rfl | ⟨rfl, rfl | rfl⟩
    · rfl
    · decide
    · decide
  have hft : fits ty (.int (Int32.ofInt x)) = true := by
    rcases hty with rfl | ⟨rfl, rfl | rfl⟩
    · rfl
    · decide
    · decide
  rw [List.map_cons, List.map_cons, hg]
  show W _ _ _ _ _ _ _ _ _ _ _ _ _ _ _ (F0 m pc A (.int (Int32.ofInt x) :: .ref (X.2.2.1 + n) :: st.map (cv X)))
  rcases h9 with h9 | ⟨host, h9⟩
  · exact va_put (ty := ty) (v := .int (Int32.ofInt x)) hC.1 hC.2.1 hC.2.2.2.2.2.1 h3 tyf h4 h5 hC.2.2.2.2.1 hC.2.2.2.2.2.2.2.1 hW (wl_D X σ) hS n he h1 k h2 (hC.2.2.2.2.2.1 _ h9) (fun x hx => by rw [h6] at hx; exact hx) h7 hpd hnw hft (by simpa using h2) hd (fun H1 locs1 hP1 hD1 hS1 => kk X p l e s m args below meth cd H1 locs1 A hC hE hS1 (by rw [hset] at hP1; exact hP1) hL)
  · exact va_putN (ty := ty) (v := .int (Int32.ofInt x)) hC.1 hC.2.1 hC.2.2.2.2.2.1 h3 tyf h4 h5 hC.2.2.2.2.1 hC.2.2.2.2.2.2.2.1 hW (wl_D X σ) hS n he h1 k h2 (hC.2.2.2.2.2.1 _ h9) (fun x hx => by rw [h6] at hx; exact hx) h7 hpd hnw hft (by simpa using h2) hd (fun H1 locs1 hP1 hD1 hS1 => kk X p l e s m args below meth cd H1 locs1 A hC hE hS1 (by rw [hset] at hP1; exact hP1) hL)
theorem cvR {X : cx} {n : Nat} : cv X (vR (n : Int)) = .ref (X.2.2.1 + n) := by
  show Value.ref (if (n : Int) < 0 then _ else _) = _
  rw [if_neg (by omega)]
  simp
theorem cvR' {X : cx} {r : Int} (h : 0 ≤ r) : cv X (vR r) = .ref (X.2.2.1 + r.toNat) := by
  show Value.ref (if r < 0 then _ else _) = _
  rw [if_neg (by omega)]
theorem r_iald {c i : Int} (n : Int) (hd : decode M.2.1 pc = .ok (.iaload, 1)) (hk : KD c = 9) (hn : AL c = n) (h0 : 0 ≤ i) (h1 : i < n) (kk : Run M Rx kz (pc + 1) ls (vI (σ c i) :: st) (sg σ)) : Run M Rx kz pc ls (vI i :: vR c :: st) (sg σ) := by
  intro X p l e s m args below meth cd H locs A hC hE hS hW hL
  obtain ⟨a, rfl, hlt⟩ := KD_lt hk (by omega)
  have hle := AL_le (a : Int)
  have hi := i_in (n := (AL a).toNat) h0 (by omega) (by omega)
  have ht : (Int32.ofInt i).toNatClampNeg = i.toNat := tN h0 (by omega)
  have hii : ((i.toNat : Nat) : Int) = i := by omega
  rw [List.map_cons, List.map_cons, cvR]
  refine va_iald hC.1 hC.2.1 hC.2.2.2.2.2.2.2.1 hW a 0 (f := fun j => Int32.ofInt (σ a j)) (n := (AL a).toNat) (cA := X.2.1.1) (by rw [wl_at X σ hlt, ent_arr hk]) rfl hi hd ?_
  rw [ht, hii]
  exact kk X p l e s m args below meth cd H locs A hC hE hS hW hL
theorem r_bald {c i : Int} (n : Int) (hd : decode M.2.1 pc = .ok (.baload, 1)) (hk : KD c = 10) (hn : AL c = n) (h0 : 0 ≤ i) (h1 : i < n) (kk : Run M Rx kz (pc + 1) ls (vI (σ c i) :: st) (sg σ)) : Run M Rx kz pc ls (vI i :: vR c :: st) (sg σ) := by
  intro X p l e s m args below meth cd H locs A hC hE hS hW hL
  obtain ⟨a, rfl, hlt⟩ := KD_lt hk (by omega)
  have hle := AL_le (a : Int)
  have hi := i_in (n := (AL a).toNat) h0 (by omega) (by omega)
  have ht : (Int32.ofInt i).toNatClampNeg = i.toNat := tN h0 (by omega)
  have hii : ((i.toNat : Nat) : Int) = i := by omega
  rw [List.map_cons, List.map_cons, cvR]
  refine va_zald hC.1 hC.2.1 hC.2.2.2.2.2.2.2.1 hW a 1 (f := fun j => Int32.ofInt (σ a j)) (n := (AL a).toNat) (cA := X.2.1.2.1) (by rw [wl_at X σ hlt, ent_bool hk]) rfl hi hd ?_
  rw [ht, hii]
  exact kk X p l e s m args below meth cd H locs A hC hE hS hW hL
theorem r_iast {c i x : Int} (n : Int) (hd : decode M.2.1 pc = .ok (.iastore, 1)) (hk : KD c = 9) (hn : AL c = n) (h0 : 0 ≤ i) (h1 : i < n) (kk : Run M Rx kz (pc + 1) ls st (sg (wr σ c i x))) : Run M Rx kz pc ls (vI x :: vI i :: vR c :: st) (sg σ) := by
  intro X p l e s m args below meth cd H locs A hC hE hS hW hL
  obtain ⟨a, rfl, hlt⟩ := KD_lt hk (by omega)
  have hle := AL_le (a : Int)
  have hi := i_in (n := (AL a).toNat) h0 (by omega) (by omega)
  have ht : (Int32.ofInt i).toNatClampNeg = i.toNat := tN h0 (by omega)
  rw [List.map_cons, List.map_cons, List.map_cons, cvR]
  refine va_iast hC.1 hC.2.1 hC.2.2.2.2.2.2.2.1 hW (wl_D X σ) hS a 0 (f := fun j => Int32.ofInt (σ a j)) (n := (AL a).toNat) (cA := X.2.1.1) (by rw [wl_at X σ hlt, ent_arr hk]) rfl hi hd (fun H1 locs1 hP1 hD1 hS1 => ?_)
  refine kk X p l e s m args below meth cd H1 locs1 A hC hE hS1 ?_ hL
  rw [ht, ← wr_upd (n := a) h0, wl_set (fun q hq => ent_ne hq) (ent_arr hk)] at hP1
  exact hP1
theorem r_bast {c i x : Int} (n : Int) (hd : decode M.2.1 pc = .ok (.bastore, 1)) (hk : KD c = 10) (hn : AL c = n) (h0 : 0 ≤ i) (h1 : i < n) (hx : x = 0 ∨ x = 1) (kk : Run M Rx kz (pc + 1) ls st (sg (wr σ c i x))) : Run M Rx kz pc ls (vI x :: vI i :: vR c :: st) (sg σ) := by
  intro X p l e s m args below meth cd H locs A hC hE hS hW hL
  obtain ⟨a, rfl, hlt⟩ := KD_lt hk (by omega)
  have hle := AL_le (a : Int)
  have hi := i_in (n := (AL a).toNat) h0 (by omega) (by omega)
  have ht : (Int32.ofInt i).toNatClampNeg = i.toNat := tN h0 (by omega)
  have hnr : vp_nar .boolean (Int32.ofInt x) = Int32.ofInt x := by rcases hx with rfl | rfl <;> decide
  rw [List.map_cons, List.map_cons, List.map_cons, cvR]
  refine va_zast hC.1 hC.2.1 hC.2.2.2.2.2.2.2.1 hW (wl_D X σ) hS a 1 (f := fun j => Int32.ofInt (σ a j)) (n := (AL a).toNat) (cA := X.2.1.2.1) (by rw [wl_at X σ hlt, ent_bool hk]) rfl hi hd (fun H1 locs1 hP1 hD1 hS1 => ?_)
  refine kk X p l e s m args below meth cd H1 locs1 A hC hE hS1 ?_ hL
  have hP1 : va_P X.1 classes ((wl X σ).set a (X.2.2.1 + a, .inl (X.2.1.2.1, (AL a).toNat, .inl (upd (fun j : Nat => Int32.ofInt (σ a j)) (Int32.ofInt i).toNatClampNeg (vp_nar .boolean (Int32.ofInt x)))))) H1 := hP1
  rw [ht, hnr, ← wr_upd (n := a) h0, wl_set (fun q hq => ent_ne hq) (ent_bool hk)] at hP1
  exact hP1
theorem ent_q11 {X : cx} {σ : sto} {n : Nat} (h : KD n = 11) : ent X σ n = .inl (X.2.1.2.2.1, (AL n).toNat, .inr (.inr (.inr (.inr (fun j => some (X.2.2.1 + (lay n j).toNat)))))) := by
  unfold ent
  rw [h]
  rfl
theorem ent_q12 {X : cx} {σ : sto} {n : Nat} (h : KD n = 12) : ent X σ n = .inl (X.2.1.2.2.2, (AL n).toNat, .inr (.inr (.inr (.inr (fun j => some (X.2.2.1 + (lay n j).toNat)))))) := by
  unfold ent
  rw [h]
  rfl
theorem r_aald {c i : Int} (n r : Int) (hd : decode M.2.1 pc = .ok (.aaload, 1)) (hk : KD c = 11 ∨ KD c = 12) (hn : AL c = n) (h0 : 0 ≤ i) (h1 : i < n) (hr : lay c i = r) (hr0 : 0 ≤ r) (kk : Run M Rx kz (pc + 1) ls (vR r :: st) (sg σ)) : Run M Rx kz pc ls (vI i :: vR c :: st) (sg σ) := by
  intro X p l e s m args below meth cd H locs A hC hE hS hW hL
  obtain ⟨a, rfl, hlt⟩ : ∃ n : Nat, c = n ∧ n < 198 := by
    rcases hk with hk | hk
    · exact KD_lt hk (by omega)
    · exact KD_lt hk (by omega)
  have hle := AL_le (a : Int)
  have hi := i_in (n := (AL a).toNat) h0 (by omega) (by omega)
  have ht : (Int32.ofInt i).toNatClampNeg = i.toNat := tN h0 (by omega)
  have hii : ((i.toNat : Nat) : Int) = i := by omega
  have hlt2 : (Int32.ofInt i).toNatClampNeg < (AL a).toNat := by rw [ht]; omega
  have hval : va_rf (some (X.2.2.1 + (lay a (((Int32.ofInt i).toNatClampNeg : Nat) : Int)).toNat)) = .ref (X.2.2.1 + r.toNat) := by
    rw [ht, hii, hr]
    rfl
  have kk' := kk X p l e s m args below meth cd H locs A hC hE hS hW hL
  rw [List.map_cons, cvR' hr0] at kk'
  rw [List.map_cons, List.map_cons, cvR]
  rcases hk with hk | hk
  · have hP := hW a _ (wl_at X σ hlt)
    rw [ent_q11 hk] at hP
    refine W.aald (v := .ref (X.2.2.1 + r.toNat)) (ty := .object "VanRounds$Plan") hC.1 hC.2.1 hP ((hC.2.2.2.2.2.2.2.1.2 2 _ rfl).1 (AL a).toNat (fun j => va_rf (some (X.2.2.1 + (lay a j).toNat)))) rfl (fun q => by cases q) (by show ¬ (Int32.ofInt i < 0 ∨ (arrV _ _ _).slots.size ≤ _); rw [arrV_size]; exact hi) (by show (arrV _ _ _).slots[_]? = _; rw [arrV_read _ _ hlt2, hval]) rfl rfl hd kk'
  · have hP := hW a _ (wl_at X σ hlt)
    rw [ent_q12 hk] at hP
    refine W.aald (v := .ref (X.2.2.1 + r.toNat)) (ty := .array .int) hC.1 hC.2.1 hP ((hC.2.2.2.2.2.2.2.1.2 3 _ rfl).1 (AL a).toNat (fun j => va_rf (some (X.2.2.1 + (lay a j).toNat)))) rfl (fun q => by cases q) (by show ¬ (Int32.ofInt i < 0 ∨ (arrV _ _ _).slots.size ≤ _); rw [arrV_size]; exact hi) (by show (arrV _ _ _).slots[_]? = _; rw [arrV_read _ _ hlt2, hval]) rfl rfl hd kk'
/-- n numbers from place sp of cell c on come to place dp of cell a on -/
def cpy (σ : sto) (c sp a dp n : Int) : sto := fun c' i' => if c' = a ∧ dp ≤ i' ∧ i' < dp + n then σ c (sp + (i' - dp)) else σ c' i'
theorem cpy_ent {X : cx} {σ : sto} {n : Nat} {c sp dp m : Int} {k : Nat} (h : k ≠ n) : ent X (cpy σ c sp n dp m) k = ent X σ k := by
  have hf : ∀ j : Int, cpy σ c sp n dp m k j = σ k j := fun j => by
    unfold cpy
    rw [if_neg]
    intro q
    exact h (by have := q.1; omega)
  unfold ent
  simp only [hf]
theorem r_copy {idx : Nat} {c sp a dp n : Int} (nc na : Int) (hd : decode M.2.1 pc = .ok (.invokestatic idx, 3)) (hlk : Cond.methodLink M.1.cls idx arraycopyName ∈ lw_tbl) (hkc : KD c = 9) (hka : KD a = 9) (hnc : AL c = nc) (hna : AL a = na) (h0 : 0 ≤ sp) (h1 : 0 ≤ dp) (h2 : 0 ≤ n) (h3 : sp + n ≤ nc) (h4 : dp + n ≤ na) (hf : 1 ≤ Rx.1.frames) (hlo : (st.map catv).sum + 24 ≤ Rx.1.locals)
    (kk : Run M Rx kz (pc + 3) ls st (sg (cpy σ c sp a dp n))) : Run M Rx kz pc ls (vI n :: vI dp :: vR a :: vI sp :: vR c :: st) (sg σ) := by
  intro X p l e s m args below meth cd H locs A hC hE hS hW hL
  obtain ⟨c, rfl, hltc⟩ := KD_lt hkc (by omega)
  obtain ⟨a, rfl, hlta⟩ := KD_lt hka (by omega)
  have hlc := AL_le (c : Int)
  have hla := AL_le (a : Int)
  have t1 : (Int32.ofInt sp).toNatClampNeg = sp.toNat := tN h0 (by omega)
  have t2 : (Int32.ofInt dp).toNatClampNeg = dp.toNat := tN h1 (by omega)
  have t3 : (Int32.ofInt n).toNatClampNeg = n.toNat := tN h2 (by omega)
  have nn : ∀ z : Int, 0 ≤ z → z < 2147483648 → ¬ Int32.ofInt z < 0 := fun z hz hz2 h => by
    rw [i_0, i_lt ⟨by omega, hz2⟩ (by decide)] at h
    omega
  have hsum : ((st.map (cv X)).map fun v => v.category).sum = (st.map catv).sum := by
    rw [List.map_map]
    congr 1
    apply List.map_congr_left
    intro v _
    exact cv_cat X v
  rw [List.map_cons, List.map_cons, List.map_cons, List.map_cons, List.map_cons, cvR, cvR]
  refine va_copyi hC.1 hC.2.1 (hC.2.2.2.1.trans hL.1.symm) hC.2.2.2.2.1 (hC.2.2.2.2.2.1 _ hlk) (hC.2.2.2.2.2.1 _ jn_copy) (hC.2.2.2.2.2.1 _ js_copy) (hC.2.2.2.2.2.1 _ ji_sys) hC.2.2.2.2.2.2.2.1 hW (wl_D X σ) hS c a 0 0 (c0 := X.2.1.1) (c1 := X.2.1.1) (n0 := (AL c).toNat) (n1 := (AL a).toNat) (f := fun j => Int32.ofInt (σ c j)) (g := fun j => Int32.ofInt (σ a j)) (ty := .int) (by rw [wl_at X σ hltc, ent_arr hkc]) (by rw [wl_at X σ hlta, ent_arr hka]) rfl rfl rfl (nn sp h0 (by omega)) (nn dp h1 (by omega)) (nn n h2 (by omega)) (by rw [t1, t3]; omega) (by rw [t2, t3]; omega) (fun i hi => rfl) hf (by rw [hsum]; exact Nat.le_trans (Nat.add_le_add_left (by decide) _) hlo) hd (fun H1 locs1 hP1 hD1 hS1 => ?_)
  refine kk X p l e s m args below meth cd H1 locs1 A hC hE hS1 ?_ hL
  have e : va_cpy (fun j : Nat => Int32.ofInt (σ c j)) (fun j : Nat => Int32.ofInt (σ a j)) sp.toNat dp.toNat n.toNat = (fun j : Nat => Int32.ofInt (cpy σ c sp a dp n a j)) := by
    funext j
    unfold va_cpy cpy
    by_cases hj : dp.toNat ≤ j ∧ j < dp.toNat + n.toNat
    · rw [if_pos hj, if_pos ⟨rfl, by omega, by omega⟩]
      show Int32.ofInt (σ c ((sp.toNat + (j - dp.toNat) : Nat) : Int)) = _
      rw [show (((sp.toNat + (j - dp.toNat) : Nat) : Int)) = sp + ((j : Int) - dp) by omega]
    · rw [if_neg hj, if_neg (fun q => hj (by have := q.2; omega))]
  rw [t1, t2, t3, e, wl_set (fun q hq => cpy_ent hq) (ent_arr hka)] at hP1
  exact hP1
theorem r_min {idx : Nat} {x y : Int} (hd : decode M.2.1 pc = .ok (.invokestatic idx, 3)) (hlk : Cond.methodLink M.1.cls idx Lib.Math.min.name ∈ lw_tbl) (hx : inR x) (hy : inR y) (hf : 1 ≤ Rx.1.frames) (hlo : (st.map catv).sum + 13 ≤ Rx.1.locals) (hz : kz.1 ≤ Rx.1.cells ∧ kz.2 ≤ Rx.1.slots) {w : hpd} (kk : Run M Rx kz (pc + 3) ls (vI (if y < x then y else x) :: st) w) : Run M Rx kz pc ls (vI y :: vI x :: st) w := by
  intro X p l e s m args below meth cd H locs A hC hE hS hW hL
  have hsum : ((st.map (cv X)).map fun v => v.category).sum = (st.map catv).sum := by
    rw [List.map_map]
    congr 1
    apply List.map_congr_left
    intro v _
    exact cv_cat X v
  refine va_mmin hC.1 hC.2.1 (hC.2.2.2.1.trans hL.1.symm) hC.2.2.2.2.1 (hC.2.2.2.2.2.1 _ hlk) (hC.2.2.2.2.2.1 _ js_min) (hC.2.2.2.2.2.1 _ ji_math) (hC.2.2.2.2.2.1 _ jm_min) hf (by rw [hsum]; exact hlo) hz.1 hz.2 hd ?_
  have kk' := kk X p l e s m args below meth cd H locs A hC hE hS hW hL
  by_cases h : y < x
  · rw [if_pos ((i_lt hy hx).mpr h)]
    rw [if_pos h] at kk'
    exact kk'
  · rw [if_neg (fun q => h ((i_lt hy hx).mp q))]
    rw [if_neg h] at kk'
    exact kk'
theorem r_max {idx : Nat} {x y : Int} (hd : decode M.2.1 pc = .ok (.invokestatic idx, 3)) (hlk : Cond.methodLink M.1.cls idx Lib.Math.max.name ∈ lw_tbl) (hx : inR x) (hy : inR y) (hf : 1 ≤ Rx.1.frames) (hlo : (st.map catv).sum + 13 ≤ Rx.1.locals) (hz : kz.1 ≤ Rx.1.cells ∧ kz.2 ≤ Rx.1.slots) {w : hpd} (kk : Run M Rx kz (pc + 3) ls (vI (if x < y then y else x) :: st) w) : Run M Rx kz pc ls (vI y :: vI x :: st) w := by
  intro X p l e s m args below meth cd H locs A hC hE hS hW hL
  have hsum : ((st.map (cv X)).map fun v => v.category).sum = (st.map catv).sum := by
    rw [List.map_map]
    congr 1
    apply List.map_congr_left
    intro v _
    exact cv_cat X v
  refine va_mmax hC.1 hC.2.1 (hC.2.2.2.1.trans hL.1.symm) hC.2.2.2.2.1 (hC.2.2.2.2.2.1 _ hlk) (hC.2.2.2.2.2.1 _ js_max) (hC.2.2.2.2.2.1 _ ji_math) (hC.2.2.2.2.2.1 _ jm_max) hf (by rw [hsum]; exact hlo) hz.1 hz.2 hd ?_
  have kk' := kk X p l e s m args below meth cd H locs A hC hE hS hW hL
  by_cases h : x < y
  · rw [if_pos ((i_lt hx hy).mpr h)]
    rw [if_pos h] at kk'
    exact kk'
  · rw [if_neg (fun q => h ((i_lt hx hy).mp q))]
    rw [if_neg h] at kk'
    exact kk'
end MEM
