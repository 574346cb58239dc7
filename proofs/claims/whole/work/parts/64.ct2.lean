-- ROWS of the world while it is made: new, new arrays, fields, constructors (written by wip/whole/gen_ct2.py)
def set9 (D : Dn) (c : Nat) (g : Nat → Bool) : Dn := fun k => if k = c then g else D k
/-- place i of cell c is set -/
def clr (D : Dn) (c i : Nat) : Dn := fun k => if k = c then (fun j => if j = i then false else D c j) else D k
theorem set9_eq {D : Dn} {c : Nat} {g : Nat → Bool} : set9 D c g c = g := if_pos rfl
theorem set9_ne {D : Dn} {c k : Nat} {g : Nat → Bool} (h : k ≠ c) : set9 D c g k = D k := if_neg h
theorem clr_ne {D : Dn} {c i k : Nat} (h : k ≠ c) : clr D c i k = D k := if_neg h
theorem clr_eq {D : Dn} {c i j : Nat} : clr D c i c j = if j = i then false else D c j := by
  unfold clr; rw [if_pos rfl]
theorem pent_fin {X : cx} {D D' : Dn} {c ci : Nat} (hk : KD c = ci) (h9 : ci < 9) (hD : D c = fun _ => false) (h : ∀ i, i < nfc ci → D' c i = false ∨ isI ci i = true ∧ ini c i = 0) : pent X D' c = pent X D c := by
  unfold pent
  rw [hk, if_pos h9, if_pos h9, hD]
  congr 2
  apply List.map_congr_left
  intro i hi
  rcases h i (List.mem_range.mp hi) with e | ⟨e1, e2⟩
  · rw [e]
  · rw [e1, if_pos rfl, if_pos rfl, e2]
    by_cases q : D' c i = true
    · rw [if_pos q]; rfl
    · rw [if_neg q]; rfl
theorem pg_fin {D D' : Dn} {c ci n : Nat} (hk : KD c = ci) (h9 : ci < 9) (hD : D c = fun _ => false) (ho : ∀ k, k ≠ c → D' k = D k) (h : ∀ i, i < nfc ci → D' c i = false ∨ isI ci i = true ∧ ini c i = 0) : pg D' n = pg D n := by
  funext X H
  unfold pg
  rw [pw_cg (fun k _ => ?_)]
  by_cases e : k = c
  · rw [e]; exact pent_fin hk h9 hD h
  · exact pent_cg (ho k e)
theorem pg_same {D D' : Dn} {n : Nat} (h : ∀ k, k < n → D' k = D k) : pg D' n = pg D n := by
  funext X H
  unfold pg
  rw [pw_cg (fun k hk => pent_cg (h k hk))]
theorem fresh_at {X : cx} {D : Dn} {n q : Nat} {e : va_E} {H : Heap} (hP : va_P X.1 classes (pw X D n ++ [(q, e)]) H) (hD : va_D (fun q => X.2.2.1 ≤ q) (pw X D n ++ [(q, e)])) (hs : H.size ≤ X.2.2.1 + n + 1) : q = X.2.2.1 + n := by
  have hat : (pw X D n ++ [(q, e)])[n]? = some (q, e) := by rw [List.getElem?_append_right (by rw [pw_len]; exact Nat.le_refl _), pw_len, Nat.sub_self]; rfl
  have h1 : q < H.size := (hP n _ hat).lt
  have h2 : X.2.2.1 ≤ q := hD.2 n _ hat
  rcases Nat.lt_or_ge q (X.2.2.1 + n) with h | h
  · have hk : q - X.2.2.1 < n := by omega
    have hat2 : (pw X D n ++ [(q, e)])[q - X.2.2.1]? = some (X.2.2.1 + (q - X.2.2.1), pent X D (q - X.2.2.1)) := by rw [List.getElem?_append_left (by rw [pw_len]; exact hk), pw_at hk]
    have := hD.1 _ _ _ _ hat2 hat (by show X.2.2.1 + (q - X.2.2.1) = q; omega)
    omega
  · omega
/-- a class that is made here -/
def NWk (own : String) (idx ci N : Nat) : Prop := ∃ (C : String) (T : u_T) (ty : Nat → FieldType), classes[ci]? = some (C, T, N) ∧ (∀ w ∈ u_ws C T N, w ∈ lw_tbl) ∧ (∀ j, j < N → parseFieldDescriptor (T j).2.2.1 = some (ty j)) ∧ Cond.classLink own idx C ∈ lw_tbl ∧ Cond.instantiable C N ∈ lw_tbl ∧ Cond.initialized C ∈ lw_tbl ∧ ∀ j, j < N → defaultValue (ty j) = if isI ci j = true then .int 0 else .null
/-- a final field that is set where it stands -/
def FLf (own : String) (idx ci k : Nat) (fty : FieldType) : Prop := ∃ (T : u_T) (N : Nat) (ty : Nat → FieldType), classes[ci]? = some (own, T, N) ∧ k < N ∧ (∀ w ∈ u_ws own T N, w ∈ lw_tbl) ∧ (∀ j, j < N → parseFieldDescriptor (T j).2.2.1 = some (ty j)) ∧ (∀ a, a < N → ∀ b, b < N → a ≠ b → (T a).2.1 ≠ (T b).2.1) ∧ (T k).1 = own ∧ (T k).2.2.2 = true ∧ ty k = fty ∧ Cond.fieldLink own idx own (T k).2.1 (T k).2.2.1 ∈ lw_tbl
theorem pobj {X : cx} {D : Dn} {k ci : Nat} {C : String} {T : u_T} {N : Nat} (hk : KD k = ci) (hcl : classes[ci]? = some (C, T, N)) : pent X D k = .inr (ci, (List.range N).map (fun i => if isI ci i then .int (Int32.ofInt (if D k i = true then 0 else ini k i)) else if D k i = true then .null else .ref (X.2.2.1 + (lay k i).toNat))) := by
  obtain ⟨hn, h9⟩ := nfc_of hcl
  unfold pent
  rw [hk, if_pos h9, hn]
theorem pset {X : cx} {D : Dn} {c ci k N : Nat} {C : String} {T : u_T} {v : Value} (hk : KD c = ci) (hcl : classes[ci]? = some (C, T, N)) (hv : (if isI ci k then .int (Int32.ofInt (ini c k)) else .ref (X.2.2.1 + (lay c k).toNat)) = v) : (Sum.inr (ci, ((List.range N).map (fun i => if isI ci i then Value.int (Int32.ofInt (if D c i = true then 0 else ini c i)) else if D c i = true then .null else .ref (X.2.2.1 + (lay c i).toNat))).set k v) : va_E) = pent X (clr D c k) c := by
  rw [pobj hk hcl]
  congr 2
  apply List.ext_getElem?
  intro j
  by_cases hj : j < N
  · rw [List.getElem?_map, List.getElem?_range hj]
    by_cases e : j = k
    · subst e
      rw [List.getElem?_set_self (by simpa using hj), ← hv]
      simp [clr_eq]
    · rw [List.getElem?_set_ne (fun q => e q.symm), List.getElem?_map, List.getElem?_range hj]
      simp [clr_eq, e]
  · rw [List.getElem?_eq_none (by simp; omega), List.getElem?_eq_none (by simp; omega)]
section CTR
variable {M : mi} {pc : Nat} {ls st : List av} {D : Dn} {lev mc ms n0 n a b : Nat} {Q : Option av → hpd → Prop}
theorem p_obj {idx : Nat} {o : Int} {w : hpd} (hd : decode M.2.1 pc = .ok (.invokespecial idx, 3)) (hlk : Cond.methodLink M.1.cls idx ⟨"java/lang/Object", "<init>", "()V"⟩ ∈ lw_tbl) (hf : 1 ≤ lev) (kk : Run M (rxN lev mc ms n0 Q) (a, b) (pc + 3) ls [] w) : Run M (rxN lev mc ms n0 Q) (a, b) pc ls [vR o] w := by
  intro X p l e s m args below meth c H locs A hC hE hS hW hL
  refine W.objInit hC.1 hC.2.1 hC.2.2.2.2.1 (hC.2.2.2.2.2.1 _ hlk) (hC.2.2.2.2.2.1 _ jo_im) (hC.2.2.2.2.2.1 _ jo_cd) rfl (by show A.size = c.maxLocals; rw [hL.1, hC.2.2.2.1]) rfl hd hf (by show 0 + 0 + 12 ≤ 64 * lev; omega) ?_
  refine W.eq (g2 := F0 m (pc + 3) A []) rfl ?_
  exact kk X p l e s m args below meth c H locs A hC hE hS hW hL
theorem p_new {idx ci N : Nat} (a' b' : Nat) (hd : decode M.2.1 pc = .ok (.new idx, 3)) (hN : NWk M.1.cls idx ci N) (hK : KD n = ci) (hn : n0 + a = n) (h1 : 1 ≤ n) (ha : a + 1 = a') (hb : b + N = b') (hz : a' ≤ mc) (hs : b' ≤ ms)
    (kk : Run M (rxN lev mc ms n0 Q) (a', b') (pc + 3) ls (vR n :: st) (pg (set9 D n (fun _ => true)) (n + 1))) : Run M (rxN lev mc ms n0 Q) (a, b) pc ls st (pg D n) := by
  subst ha hb
  intro X p l e s m args below meth c H locs A hC hE hS hW hL
  obtain ⟨C, T, ty, c1, c2, c3, c4, c5, c6, c7⟩ := hN
  have hts := hC.2.2.2.2.2.1
  have hE0 : s.heap.size = X.2.2.1 + n0 := hE
  have hA : ∀ q, s.heap.size ≤ q → X.2.2.1 ≤ q := fun q h => by omega
  refine va_new (ci := ci) (fs := (List.range N).map (fun i => if isI ci i then .int (Int32.ofInt 0) else .null)) hC.1 hC.2.1 hts c2 ty c3 hC.2.2.2.2.1 (hts _ c4) (hts _ c5) (hts _ c6) hC.2.2.2.2.2.2.2.1 hW (pw_D X D n) hS hA c1 (fun j hj => ?_) hz hs hd (fun q H1 hP1 hD1 hS1 => ?_)
  · rw [c7 j hj]
    unfold vp_V
    rw [List.getD_eq_getElem?_getD, List.getElem?_map, List.getElem?_range hj]
    rfl
  · intro Tt hT Xs
    have hsz := Xs.heapSize
    rw [hT, hE0] at hsz
    have hq := fresh_at hP1 hD1 (by omega)
    subst hq
    have hP2 : pg (set9 D n (fun _ => true)) (n + 1) X H1 := by
      have e : pent X (set9 D n (fun _ => true)) n = .inr (ci, (List.range N).map (fun i => if isI ci i then .int (Int32.ofInt 0) else .null)) := by
        rw [pobj hK c1, set9_eq]
        rfl
      rw [← e, pw_push (fun k hk => set9_ne (by omega))] at hP1
      exact hP1
    have kk' := kk X p l e s m args below meth c H1 locs A hC hE hS1 hP2 hL Tt hT Xs
    rw [List.map_cons, cvR] at kk'
    exact kk'
theorem p_newa (k : Nat) (a' b' : Nat) {kI : Int} (hd : decode M.2.1 pc = .ok (.newarray .int, 2)) (hkI : kI = (k : Int)) (hK : KD n = 9) (hal : AL n = kI) (hi : ∀ i, ini n i = 0) (hn : n0 + a = n) (h1 : 1 ≤ n) (k1 : k ≤ 4096) (ha : a + 1 = a') (hb : b + k = b') (hz : a' ≤ mc) (hs : b' ≤ ms)
    (kk : Run M (rxN lev mc ms n0 Q) (a', b') (pc + 2) ls (vR n :: st) (pg D (n + 1))) : Run M (rxN lev mc ms n0 Q) (a, b) pc ls (vI kI :: st) (pg D n) := by
  subst ha hb hkI
  intro X p l e s m args below meth c H locs A hC hE hS hW hL
  have hts := hC.2.2.2.2.2.1
  have hKK := hC.2.2.2.2.2.2.2.1
  have hE0 : s.heap.size = X.2.2.1 + n0 := hE
  have hA : ∀ q, s.heap.size ≤ q → X.2.2.1 ≤ q := fun q h => by omega
  refine va_newa (atype := .int) (ty := .int) (n := Int32.ofInt k) (N' := k) (a0 := (k, .inl (fun _ => 0))) hC.1 hC.2.1 (hts _ ja_int) rfl hKK hW (pw_D X D n) hS hA (fun _ => rfl) (fun h => ?_) (by rw [tN (by omega) (by omega)]; omega) (by show k * 4 ≤ _; omega) hz hs hd (fun q cA H1 hK1 hP1 hD1 hS1 => ?_)
  · rw [i_0, i_lt ⟨by omega, by omega⟩ (by decide)] at h; omega
  · intro Tt hT Xs
    have hsz := Xs.heapSize
    rw [hT, hE0] at hsz
    have hq := fresh_at hP1 hD1 (by omega)
    subst hq
    have eA : some X.2.1.1 = some cA := ((hKK.2 0 _ rfl).2 : s.vm.findClass ("[" ++ FieldType.int.toString) = some X.2.1.1).symm.trans ((hK1.2 4 _ rfl).2 : s.vm.findClass ("[" ++ FieldType.int.toString) = some cA)
    cases eA
    have hP2 : pg D (n + 1) X H1 := by
      have e : pent X D n = .inl (X.2.1.1, k, .inl (fun _ => 0)) := by
        unfold pent
        rw [hK, if_neg (by decide), if_pos (by decide), if_pos rfl, hal, Int.toNat_natCast]
        congr 4
        funext j
        rw [hi]; rfl
      rw [← e, pw_push (fun k hk => rfl)] at hP1
      exact hP1
    have kk' := kk X p l e s m args below meth c H1 locs A hC hE hS1 hP2 hL Tt hT Xs
    rw [List.map_cons, cvR] at kk'
    exact kk'
theorem p_newz (k : Nat) (a' b' : Nat) {kI : Int} (hd : decode M.2.1 pc = .ok (.newarray .boolean, 2)) (hkI : kI = (k : Int)) (hK : KD n = 10) (hal : AL n = kI) (hi : ∀ i, ini n i = 0) (hn : n0 + a = n) (h1 : 1 ≤ n) (k1 : k ≤ 4096) (ha : a + 1 = a') (hb : b + k = b') (hz : a' ≤ mc) (hs : b' ≤ ms)
    (kk : Run M (rxN lev mc ms n0 Q) (a', b') (pc + 2) ls (vR n :: st) (pg D (n + 1))) : Run M (rxN lev mc ms n0 Q) (a, b) pc ls (vI kI :: st) (pg D n) := by
  subst ha hb hkI
  intro X p l e s m args below meth c H locs A hC hE hS hW hL
  have hts := hC.2.2.2.2.2.1
  have hKK := hC.2.2.2.2.2.2.2.1
  have hE0 : s.heap.size = X.2.2.1 + n0 := hE
  have hA : ∀ q, s.heap.size ≤ q → X.2.2.1 ≤ q := fun q h => by omega
  refine va_newa (atype := .boolean) (ty := .boolean) (n := Int32.ofInt k) (N' := k) (a0 := (k, .inl (fun _ => 0))) hC.1 hC.2.1 (hts _ ja_bool) rfl hKK hW (pw_D X D n) hS hA (fun _ => rfl) (fun h => ?_) (by rw [tN (by omega) (by omega)]; omega) (by show k * 1 ≤ _; omega) hz hs hd (fun q cA H1 hK1 hP1 hD1 hS1 => ?_)
  · rw [i_0, i_lt ⟨by omega, by omega⟩ (by decide)] at h; omega
  · intro Tt hT Xs
    have hsz := Xs.heapSize
    rw [hT, hE0] at hsz
    have hq := fresh_at hP1 hD1 (by omega)
    subst hq
    have eA : some X.2.1.2.1 = some cA := ((hKK.2 1 _ rfl).2 : s.vm.findClass ("[" ++ FieldType.boolean.toString) = some X.2.1.2.1).symm.trans ((hK1.2 4 _ rfl).2 : s.vm.findClass ("[" ++ FieldType.boolean.toString) = some cA)
    cases eA
    have hP2 : pg D (n + 1) X H1 := by
      have e : pent X D n = .inl (X.2.1.2.1, k, .inl (fun _ => 0)) := by
        unfold pent
        rw [hK, if_neg (by decide), if_pos (by decide), if_neg (by decide), hal, Int.toNat_natCast]
        congr 4
        funext j
        rw [hi]; rfl
      rw [← e, pw_push (fun k hk => rfl)] at hP1
      exact hP1
    have kk' := kk X p l e s m args below meth c H1 locs A hC hE hS1 hP2 hL Tt hT Xs
    rw [List.map_cons, cvR] at kk'
    exact kk'
theorem p_anew {idx : Nat} (a' b' : Nat) (hd : decode M.2.1 pc = .ok (.anewarray idx, 3)) (hlk : Cond.classLink M.1.cls idx "VanRounds$Plan" ∈ lw_tbl) (hK : KD n = 11) (hal : AL n = 20) (hn : n0 + a = n) (h1 : 1 ≤ n) (ha : a + 1 = a') (hb : b + 20 = b') (hz : a' ≤ mc) (hs : b' ≤ ms)
    (kk : Run M (rxN lev mc ms n0 Q) (a', b') (pc + 3) ls (vR n :: st) (pg (set9 D n (fun _ => true)) (n + 1))) : Run M (rxN lev mc ms n0 Q) (a, b) pc ls (vI 20 :: st) (pg D n) := by
  subst ha hb
  intro X p l e s m args below meth c H locs A hC hE hS hW hL
  have hts := hC.2.2.2.2.2.1
  have hKK := hC.2.2.2.2.2.2.2.1
  have hE0 : s.heap.size = X.2.2.1 + n0 := hE
  have hA : ∀ q, s.heap.size ≤ q → X.2.2.1 ≤ q := fun q h => by omega
  refine va_newq (n := Int32.ofInt 20) (N' := 20) hC.1 hC.2.1 hC.2.2.2.2.1 (hts _ hlk) (va_AO.of (hts _ jv_plan)) hKK hW (pw_D X D n) hS hA (by decide) (by decide) (by decide) hz hs hd (fun q cA H1 hK1 hP1 hD1 hS1 => ?_)
  intro Tt hT Xs
  have hsz := Xs.heapSize
  rw [hT, hE0] at hsz
  have hq := fresh_at hP1 hD1 (by omega)
  subst hq
  obtain ⟨_, _, _, _, _, e1⟩ := (hKK.2 2 _ rfl).2
  obtain ⟨_, _, _, _, _, e2⟩ := (hK1.2 4 _ rfl).2
  have eA := e1.symm.trans e2
  cases eA
  have hP2 : pg (set9 D n (fun _ => true)) (n + 1) X H1 := by
    have e : pent X (set9 D n (fun _ => true)) n = .inl (X.2.1.2.2.1, 20, .inr (.inr (.inr (.inr (fun _ => none))))) := by
      unfold pent
      rw [hK, if_neg (by decide), if_neg (by decide), if_pos rfl, hal, set9_eq]
      rfl
    rw [← e, pw_push (fun k hk => set9_ne (by omega))] at hP1
    exact hP1
  have kk' := kk X p l e s m args below meth c H1 locs A hC hE hS1 hP2 hL Tt hT Xs
  rw [List.map_cons, cvR] at kk'
  exact kk'
theorem p_getR {Rx : rx} {kz : Nat × Nat} {idx ci k : Nat} {fin : Bool} {ty : FieldType} {c : Nat} (r : Nat) (hd : decode M.2.1 pc = .ok (.getfield idx, 3)) (hF : FLk M.1.cls idx ci k fin ty) (hk : KD c = ci) (hI : isI ci k = false) (hr : lay c k = r) (hc : c < n) (hD : D c k = false) (kk : Run M Rx kz (pc + 3) ls (vR r :: st) (pg D n)) : Run M Rx kz pc ls (vR c :: st) (pg D n) := by
  intro X p l e s m args below meth cd H locs A hC hE hS hW hL
  obtain ⟨C, T, N, tyf, h1, h2, h3, h4, h5, h6, h7, h8, h9⟩ := hF
  have he : (pw X D n)[c]? = some (X.2.2.1 + c, .inr (ci, (List.range N).map (fun i => if isI ci i then .int (Int32.ofInt (if D c i = true then 0 else ini c i)) else if D c i = true then .null else .ref (X.2.2.1 + (lay c i).toNat)))) := by rw [pw_at hc, pobj hk h1]
  have hv : ((List.range N).map (fun i => if isI ci i then Value.int (Int32.ofInt (if D c i = true then 0 else ini c i)) else if D c i = true then .null else .ref (X.2.2.1 + (lay c i).toNat)))[k]? = some (.ref (X.2.2.1 + r)) := by
    rw [List.getElem?_map, List.getElem?_range h2]
    simp [hI, hD, hr]
  have kk' := kk X p l e s m args below meth cd H locs A hC hE hS hW hL
  rw [List.map_cons, cvR] at kk' ⊢
  rcases h9 with h9 | ⟨host, h9⟩
  · exact va_get hC.1 hC.2.1 hC.2.2.2.2.2.1 h3 hC.2.2.2.2.1 hC.2.2.2.2.2.2.2.1 hW c he h1 k h2 (hC.2.2.2.2.2.1 _ h9) (fun x hx => by rw [h6] at hx; exact hx) hv hd kk'
  · exact va_getN hC.1 hC.2.1 hC.2.2.2.2.2.1 h3 hC.2.2.2.2.1 hC.2.2.2.2.2.2.2.1 hW c he h1 k h2 (hC.2.2.2.2.2.1 _ h9) (fun x hx => by rw [h6] at hx; exact hx) hv hd kk'
theorem p_putR {Rx : rx} {kz : Nat × Nat} {idx ci k : Nat} {ty : FieldType} {c r : Nat} (hd : decode M.2.1 pc = .ok (.putfield idx, 3)) (hF : FLf M.1.cls idx ci k ty) (hty : ∀ a, narrow ty (.ref a) = .ref a ∧ fits ty (.ref a) = true) (hM : M.1.name = "<init>") (hk : KD c = ci) (hI : isI ci k = false) (hr : lay c k = r) (hc : c < n) (kk : Run M Rx kz (pc + 3) ls st (pg (clr D c k) n)) : Run M Rx kz pc ls (vR r :: vR c :: st) (pg D n) := by
  intro X p l e s m args below meth cd H locs A hC hE hS hW hL
  obtain ⟨T, N, tyf, h1, h2, h3, h4, h5, h6, h7, h8, h9⟩ := hF
  have he : (pw X D n)[c]? = some (X.2.2.1 + c, .inr (ci, (List.range N).map (fun i => if isI ci i then .int (Int32.ofInt (if D c i = true then 0 else ini c i)) else if D c i = true then .null else .ref (X.2.2.1 + (lay c i).toNat)))) := by rw [pw_at hc, pobj hk h1]
  have hpd : parseFieldDescriptor (T k).2.2.1 = some ty := by rw [h4 k h2, h8]
  rw [List.map_cons, List.map_cons, cvR, cvR]
  exact va_putF (ty := ty) (v := .ref (X.2.2.1 + r)) hC.1 hC.2.1 hC.2.2.2.2.2.1 h3 tyf h4 h5 hC.2.2.2.2.1 hC.2.2.2.2.2.2.2.1 hW (pw_D X D n) hS c he h1 k h2 (hC.2.2.2.2.2.1 _ h9) (fun x hx => by rw [h6] at hx; exact hx) h7 (hC.2.2.2.2.2.2.2.2.trans hM) h6 hpd (hty _).1 (hty _).2 (by simpa using h2) hd (fun H1 locs1 hP1 hD1 hS1 => kk X p l e s m args below meth cd H1 locs1 A hC hE hS1 (by
    rw [pset hk h1 (by rw [hI, hr]; simp), pw_set (fun q hq => clr_ne hq)] at hP1
    exact hP1) hL)
theorem p_putI {Rx : rx} {kz : Nat × Nat} {idx ci k : Nat} {c : Nat} {x : Int} (hd : decode M.2.1 pc = .ok (.putfield idx, 3)) (hF : FLk M.1.cls idx ci k false .int) (hk : KD c = ci) (hI : isI ci k = true) (hx : ini c k = x) (hc : c < n) (kk : Run M Rx kz (pc + 3) ls st (pg (clr D c k) n)) : Run M Rx kz pc ls (vI x :: vR c :: st) (pg D n) := by
  intro X p l e s m args below meth cd H locs A hC hE hS hW hL
  obtain ⟨C, T, N, tyf, h1, h2, h3, h4, h5, h6, h7, h8, h9⟩ := hF
  have he : (pw X D n)[c]? = some (X.2.2.1 + c, .inr (ci, (List.range N).map (fun i => if isI ci i then .int (Int32.ofInt (if D c i = true then 0 else ini c i)) else if D c i = true then .null else .ref (X.2.2.1 + (lay c i).toNat)))) := by rw [pw_at hc, pobj hk h1]
  have hpd : parseFieldDescriptor (T k).2.2.1 = some .int := by rw [h4 k h2, h8]
  rw [List.map_cons, List.map_cons, cvR]
  show W _ _ _ _ _ _ _ _ _ _ _ _ _ _ _ (F0 m pc A (.int (Int32.ofInt x) :: .ref (X.2.2.1 + c) :: st.map (cv X)))
  have fin : ∀ (H1 : Heap) (locs1 : List Loc), va_P X.1 classes ((pw X D n).set c (X.2.2.1 + c, .inr (ci, ((List.range N).map (fun i => if isI ci i then Value.int (Int32.ofInt (if D c i = true then 0 else ini c i)) else if D c i = true then .null else .ref (X.2.2.1 + (lay c i).toNat))).set k (.int (Int32.ofInt x))))) H1 → va_S (fun q => X.2.2.1 ≤ q) s.heap H1 locs1 → W p l e Rx.1 s m args below meth cd H1 locs1 kz.1 kz.2 (Rx.2.2 X below args s) (F0 m (pc + 3) A (st.map (cv X))) := fun H1 locs1 hP1 hS1 => kk X p l e s m args below meth cd H1 locs1 A hC hE hS1 (by
    rw [pset hk h1 (by rw [hI, hx]; simp), pw_set (fun q hq => clr_ne hq)] at hP1
    exact hP1) hL
  rcases h9 with h9 | ⟨host, h9⟩
  · exact va_put (ty := .int) (v := .int (Int32.ofInt x)) hC.1 hC.2.1 hC.2.2.2.2.2.1 h3 tyf h4 h5 hC.2.2.2.2.1 hC.2.2.2.2.2.2.2.1 hW (pw_D X D n) hS c he h1 k h2 (hC.2.2.2.2.2.1 _ h9) (fun x hx => by rw [h6] at hx; exact hx) h7 hpd rfl rfl (by simpa using h2) hd (fun H1 locs1 hP1 hD1 hS1 => fin H1 locs1 hP1 hS1)
  · exact va_putN (ty := .int) (v := .int (Int32.ofInt x)) hC.1 hC.2.1 hC.2.2.2.2.2.1 h3 tyf h4 h5 hC.2.2.2.2.1 hC.2.2.2.2.2.2.2.1 hW (pw_D X D n) hS c he h1 k h2 (hC.2.2.2.2.2.1 _ h9) (fun x hx => by rw [h6] at hx; exact hx) h7 hpd rfl rfl (by simpa using h2) hd (fun H1 locs1 hP1 hD1 hS1 => fin H1 locs1 hP1 hS1)
theorem p_aast {Rx : rx} {kz : Nat × Nat} {c r i : Nat} (hd : decode M.2.1 pc = .ok (.aastore, 1)) (hK : KD c = 11) (hal : AL c = 20) (hi : i < 20) (hr : lay c i = r) (hrk : KD r = 1) (hc : c < n) (hrn : r < n) (kk : Run M Rx kz (pc + 1) ls st (pg (clr D c i) n)) : Run M Rx kz pc ls (vR r :: vI i :: vR c :: st) (pg D n) := by
  intro X p l e s m args below meth cd H locs A hC hE hS hW hL
  have hKK := hC.2.2.2.2.2.2.2.1
  have he : (pw X D n)[c]? = some (X.2.2.1 + c, .inl (X.2.1.2.2.1, 20, .inr (.inr (.inr (.inr (fun j => if D c j = true then none else some (X.2.2.1 + (lay c j).toNat))))))) := by
    rw [pw_at hc]
    unfold pent
    rw [hK, if_neg (by decide), if_neg (by decide), if_pos rfl, hal]
    rfl
  have hcl : classes[1]? = some (R_Plan, F_Plan, 2) := rfl
  have hv : (pw X D n)[r]? = some (X.2.2.1 + r, .inr (1, (List.range 2).map (fun i => if isI 1 i then .int (Int32.ofInt (if D r i = true then 0 else ini r i)) else if D r i = true then .null else .ref (X.2.2.1 + (lay r i).toNat)))) := by rw [pw_at hrn, pobj hrk hcl]
  rw [List.map_cons, List.map_cons, List.map_cons, cvR, cvR]
  show W _ _ _ _ _ _ _ _ _ _ _ _ _ _ _ (F0 m pc A (.ref (X.2.2.1 + r) :: .int (Int32.ofInt i) :: .ref (X.2.2.1 + c) :: st.map (cv X)))
  refine va_astq (r := (R_Plan, F_Plan, 2)) hC.1 hC.2.1 hKK hW (pw_D X D n) hS c 2 r 1 he rfl hv hcl (i_in (by omega) (by omega) (by decide)) hd (fun H1 locs1 hP1 hD1 hS1 => ?_)
  refine kk X p l e s m args below meth cd H1 locs1 A hC hE hS1 ?_ hL
  have et : (Int32.ofInt (i : Int)).toNatClampNeg = i := by rw [tN (by omega) (by omega)]; omega
  have e9 : (Sum.inl (X.2.1.2.2.1, 20, .inr (.inr (.inr (.inr (va_up (fun j => if D c j = true then none else some (X.2.2.1 + (lay c j).toNat)) (Int32.ofInt (i : Int)).toNatClampNeg (some (X.2.2.1 + r))))))) : va_E) = pent X (clr D c i) c := by
    unfold pent
    rw [hK, if_neg (by decide), if_neg (by decide), if_pos rfl, hal, et]
    congr 7
    funext j
    unfold va_up
    rw [clr_eq]
    by_cases q : j = i
    · rw [if_pos q, if_pos q, q, hr]; rfl
    · rw [if_neg q, if_neg q]
  rw [e9, pw_set (fun q hq => clr_ne hq)] at hP1
  exact hP1
theorem p_callI {My : mi} {lev' mc' ms' idx : Nat} {o : Nat} {Q' : Option av → hpd → Prop} (a' b' : Nat) (hd : decode M.2.1 pc = .ok (.invokespecial idx, 3)) (hlk : Cond.methodLink M.1.cls idx My.1 ∈ lw_tbl ∨ ∃ host, Cond.methodLinkNest M.1.cls idx My.1 host ∈ lw_tbl) (hV : IC My) (hCt : Ct My lev' mc' ms' [vR o] (pz D n) Q') (hn : n0 + a = n) (h1 : 1 ≤ n) (hR : lev' + 1 ≤ lev ∧ 8 + (My.2.2.1 + 11) + 64 * lev' ≤ 64 * lev) (ha : a + mc' = a') (hb : b + ms' = b') (hz : a' ≤ mc) (hs : b' ≤ ms) (hro : (st.map catv).sum ≤ 8)
    (kk : ∀ v w', Q' v w' → Run M (rxN lev mc ms n0 Q) (a', b') (pc + 3) ls (v.toList ++ st) w') : Run M (rxN lev mc ms n0 Q) (a, b) pc ls (vR o :: st) (pg D n) := by
  subst ha hb
  intro X p l e s m args below meth c H locs A hC hE hS hW hL T hT Xs
  have hsz := Xs.heapSize
  have hup := pg_up h1 hW
  have hE0 : s.heap.size = X.2.2.1 + n0 := hE
  rw [hT] at hsz
  have hH : H.size = X.2.2.1 + n := by omega
  obtain ⟨hFY, him, hin, hcd, hnm, hret⟩ := hV
  have hts := hC.2.2.2.2.2.1
  have hpre : PreS s H (va_Pc ([vR (o : Int)].map (cv X)) (fun U => pz D n X U.heap ∧ va_K X.1 classes (tysX X) U)) (.ref (X.2.2.1 + o) :: []) := ⟨ct_blind, fun U hU hWm => ⟨by rw [List.map_cons, cvR]; rfl, ⟨by rw [hU]; exact hH, by rw [hU]; exact hW⟩, va_K.moved hWm.alike hC.2.2.2.2.2.2.2.1⟩⟩
  have hmet := hCt l X
  rw [List.map_cons, cvR]
  rcases hlk with hlk | ⟨host, hlk⟩
  · have cb : CallB (rmv lev mc ms) s args M.1.cls idx My.1 My.2.1 My.2.2.1 none (wsM My) (rmv lev' mc' ms') mc' ms' 0 := ⟨rfl, rfl, hR.1, hR.2, ct_words hts hcd, by rw [← hret]; exact List.mem_cons_self, by rw [← hret]; exact hts _ hcd, hts _ hin, hFY.2.1, fy_len hFY, hts _ hlk⟩
    have hr := va_runI (l := l) (e := e) (below := below) (meth := meth) (H := H) (locs := locs) (cells := a) (slots := b) (As := []) (b := X.2.2.1 + o) (rest := st.map (cv X)) (g := F0 m pc A (.ref (X.2.2.1 + o) :: st.map (cv X))) (nL := M.2.2.1) ⟨hC.1, hC.2.1, hC.2.2.2.1, hC.2.2.2.2.1, hts⟩ hmet ⟨cb, hnm, hts _ him⟩ hpre rfl rfl hL.1 rfl (lv_room (by rw [map_sum]; exact hro)) hd ⟨hz, hs⟩
    exact run_behind (Rx := rxN lev mc ms n0 Q) (kz := (a, b)) hC hE hS hL hr kk T hT Xs
  · have cb : va_CN (rmv lev mc ms) s args M.1.cls idx My.1 host My.2.1 My.2.2.1 none (wsM My) (rmv lev' mc' ms') mc' ms' 0 := ⟨⟨rfl, rfl, hR.1, hR.2, ct_words hts hcd, by rw [← hret]; exact List.mem_cons_self⟩, by rw [← hret]; exact hts _ hcd, hts _ hin, hFY.2.1, fy_len hFY, hts _ hlk⟩
    have hr := va_runIN (l := l) (e := e) (below := below) (meth := meth) (H := H) (locs := locs) (cells := a) (slots := b) (As := []) (b := X.2.2.1 + o) (rest := st.map (cv X)) (g := F0 m pc A (.ref (X.2.2.1 + o) :: st.map (cv X))) (nL := M.2.2.1) ⟨hC.1, hC.2.1, hC.2.2.2.1, hC.2.2.2.2.1, hts⟩ hmet ⟨cb, hnm, hts _ him⟩ hpre rfl rfl hL.1 rfl (lv_room (by rw [map_sum]; exact hro)) hd ⟨hz, hs⟩
    exact run_behind (Rx := rxN lev mc ms n0 Q) (kz := (a, b)) hC hE hS hL hr kk T hT Xs
theorem p_vret {w : hpd} (hd : decode M.2.1 pc = .ok (.return_, 1)) (hr : M.2.2.2 = none) (hQ : Q none w) : Run M (rxN lev mc ms n0 Q) (mc, ms) pc ls [] w := by
  intro X p l e s m args below meth c H locs A hC hE hS hW hL
  exact W.vret hC.1 hC.2.1 (hC.2.2.1.trans hr) (fun t ht hWm => ⟨⟨none, w, rfl, hQ, by rw [ht]; exact hW, va_K.moved hWm.alike hC.2.2.2.2.2.2.2.1⟩, hS.F ht⟩) hS.2.2 hd hC.2.2.2.2.2.2.1
/-- a constructor's contract out of a run of its body -/
theorem cn_of {As : List av} (ls : List av) (hy : plainName M.1.cls = true) (hls : eLs As ++ List.replicate (M.2.2.1 - (eLs As).length) vU = ls) (hn : (eLs As).length ≤ M.2.2.1) (h : Run M (rxN lev mc ms n Q) (0, 0) 0 ls [] (pg D n)) : Ct M lev mc ms As (pz D n) Q := by
  intro l X
  refine Met.ofW (cc := M.2.1) (maxL := M.2.2.1) (ret := M.2.2.2) hy rfl ?_
  intro p e s m args below meth c s₁ B hml hv
  obtain ⟨rfl, ⟨hz, hw⟩, hK⟩ := hv
  have hts0 := atoms_spec (ws := wsM M) B.pre
  rw [lg_entry_eq]
  have hl := lv_entry (As.map (cv X)) (n := M.2.2.1) (by rw [eLs_len]; exact hn)
  refine h X p l e s m _ below meth c s.heap [] _ ⟨B.exec, B.bytes, B.returns, hml, findClass_of_methodNamed B.named, fun w hw => hts0 w (List.mem_cons_of_mem _ hw), B.notSynchronized, hK, (name_of_methodNamed B.named B.method).1⟩ hz va_S.rf hw ⟨hl.1, hl.2.1, fun i v hi hv => ?_⟩
  rw [← hls] at hi
  by_cases hlt : i < (eLs As).length
  · rw [List.getElem?_append_left hlt] at hi
    have := hl.2.2 _ (eLs_rel (X := X) As 0 i v hi hv)
    simpa using this
  · rw [List.getElem?_append_right (by omega)] at hi
    have := List.mem_of_getElem? hi
    exact absurd (List.eq_of_mem_replicate this) hv
end CTR
/-- a constructor: the cell c is made, and all cells up to e behind it -/
def CNc (M : mi) (lev mc ms c e : Nat) : Prop := ∀ D : Dn, (∀ k, c ≤ k → D k = fun _ => false) → Ct M lev mc ms [vR c] (pz (set9 D c (fun _ => true)) (c + 1)) (fun v w' => v = none ∧ w' = pg D e)
