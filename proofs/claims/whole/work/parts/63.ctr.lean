-- THE WORLD WHILE IT IS MADE, and new int[3][12] (written by wip/whole/gen_ctr.py)
/-- what the int fields are set to where they are made (0 else) -/
def ini (k i : Nat) : Int := if k = 0 then (if i = 9 ∨ i = 10 then -1 else 0) else if k = 3 then (if i = 5 then 1 else 0) else if k = 169 then (if i = 33 ∨ i = 45 then -1 else 0) else 0
/-- which places of the cells made so far are still to be set -/
abbrev Dn : Type := Nat → Nat → Bool
def pent (X : cx) (D : Dn) (k : Nat) : va_E :=
  if KD k < 9 then .inr (KD k, (List.range (nfc (KD k))).map (fun i => if isI (KD k) i then .int (Int32.ofInt (if D k i = true then 0 else ini k i)) else if D k i = true then .null else .ref (X.2.2.1 + (lay k i).toNat)))
  else if KD k < 11 then .inl (if KD k = 9 then X.2.1.1 else X.2.1.2.1, (AL k).toNat, .inl (fun j => Int32.ofInt (ini k j)))
  else .inl (if KD k = 11 then X.2.1.2.2.1 else X.2.1.2.2.2, (AL k).toNat, .inr (.inr (.inr (.inr (fun j => if D k j = true then none else some (X.2.2.1 + (lay k j).toNat))))))
def pw (X : cx) (D : Dn) (n : Nat) : va_W := (List.range n).map (fun k => (X.2.2.1 + k, pent X D k))
def pg (D : Dn) (n : Nat) : hpd := fun X H => va_P X.1 classes (pw X D n) H
def pz (D : Dn) (n : Nat) : hpd := fun X H => H.size = X.2.2.1 + n ∧ va_P X.1 classes (pw X D n) H
theorem pw_len {X : cx} {D : Dn} {n : Nat} : (pw X D n).length = n := by simp [pw]
theorem pw_at {X : cx} {D : Dn} {n k : Nat} (h : k < n) : (pw X D n)[k]? = some (X.2.2.1 + k, pent X D k) := by simp [pw, List.getElem?_range h]
theorem pw_of {X : cx} {D : Dn} {n k : Nat} {q : Nat × va_E} (h : (pw X D n)[k]? = some q) : k < n ∧ q = (X.2.2.1 + k, pent X D k) := by
  have hk : k < n := by
    have := (List.getElem?_eq_some_iff.mp h).1
    rwa [pw_len] at this
  rw [pw_at hk] at h
  cases h
  exact ⟨hk, rfl⟩
theorem pw_D (X : cx) (D : Dn) (n : Nat) : va_D (fun q => X.2.2.1 ≤ q) (pw X D n) := by
  refine ⟨fun i j p q hi hj h => ?_, fun k q h => ?_⟩
  · rw [(pw_of hi).2, (pw_of hj).2] at h
    have h : X.2.2.1 + i = X.2.2.1 + j := h
    omega
  · rw [(pw_of h).2]
    show X.2.2.1 ≤ X.2.2.1 + k
    omega
theorem pent_cg {X : cx} {D D' : Dn} {k : Nat} (h : D' k = D k) : pent X D' k = pent X D k := by
  unfold pent; rw [h]
theorem pw_push {X : cx} {D D' : Dn} {n : Nat} (h : ∀ k, k < n → D' k = D k) : pw X D n ++ [(X.2.2.1 + n, pent X D' n)] = pw X D' (n + 1) := by
  unfold pw
  rw [List.range_succ, List.map_append]
  congr 1
  apply List.map_congr_left
  intro k hk
  rw [pent_cg (h k (List.mem_range.mp hk))]
theorem pw_set {X : cx} {D D' : Dn} {n c : Nat} (h : ∀ k, k ≠ c → D' k = D k) : (pw X D n).set c (X.2.2.1 + c, pent X D' c) = pw X D' n := by
  apply List.ext_getElem?
  intro k
  by_cases hk : k < n
  · by_cases e : k = c
    · subst e
      rw [List.getElem?_set_self (by rw [pw_len]; exact hk), pw_at hk]
    · rw [List.getElem?_set_ne (fun q => e q.symm), pw_at hk, pw_at hk, pent_cg (h k e)]
  · rw [List.getElem?_eq_none (by rw [List.length_set, pw_len]; omega), List.getElem?_eq_none (by rw [pw_len]; omega)]
theorem pw_cg {X : cx} {D D' : Dn} {n : Nat} (h : ∀ k, k < n → pent X D' k = pent X D k) : pw X D' n = pw X D n := by
  unfold pw
  apply List.map_congr_left
  intro k hk
  rw [h k (List.mem_range.mp hk)]
theorem pg_up {X : cx} {D : Dn} {n : Nat} {H : Heap} (h1 : 1 ≤ n) (h : pg D n X H) : X.2.2.1 + n ≤ H.size := by
  have b := (h (n - 1) _ (pw_at (by omega))).lt
  have b : X.2.2.1 + (n - 1) < H.size := b
  omega
/-- the room of a method that makes cells, and how many there were as it began -/
def rxN (lev mc ms n0 : Nat) (Q : Option av → hpd → Prop) : rx := (rmv lev mc ms, fun X s _ => s.heap.size = X.2.2.1 + n0, fun X below args s => MQ below (QQ X Q) args s mc ms (fun q => X.2.2.1 ≤ q))
theorem cell_cg {c : ClassId} {N : Nat} {f g : Nat → Value} (h : ∀ j, j < N → f j = g j) : arrV c N f = arrV c N g := by
  unfold arrV
  congr 1
  apply Array.ext
  · simp
  · intro j h1 h2
    simp at h1
    simp [h j h1]
theorem outer_c (c : ClassId) (N h0 : Nat) : ∀ i : Nat, Jvm.Free.Multi.outerC c N h0 i = arrV c N (fun j => va_rf (if j < i then some (h0 + 1 + j) else none)) := by
  intro i
  induction i with
  | zero =>
    show ({ cls := c, slots := Array.replicate N .null, vm := .none } : Cell) = _
    rw [arrV_new]
    exact cell_cg (fun j _ => by rw [if_neg (by omega)]; rfl)
  | succ i ih =>
    show (Jvm.Free.Multi.outerC c N h0 i).setSlot i (.ref (h0 + 1 + i)) = _
    rw [ih, arrV_store]
    refine cell_cg (fun j _ => ?_)
    show (if j = i then Value.ref (h0 + 1 + i) else va_rf (if j < i then some (h0 + 1 + j) else none)) = va_rf (if j < i + 1 then some (h0 + 1 + j) else none)
    by_cases e : j = i
    · rw [if_pos e, if_pos (by omega), e]; rfl
    · rw [if_neg e]
      by_cases e2 : j < i
      · rw [if_pos e2, if_pos (by omega)]
      · rw [if_neg e2, if_neg (by omega)]
theorem at_ref {X : cx} {q N : Nat} {c : ClassId} {f : Nat → Option Nat} {H : Heap} : va_at X.1 classes (q, .inl (c, N, .inr (.inr (.inr (.inr f))))) H ↔ H[q]? = some (arrV c N (fun j => va_rf (f j))) := Iff.rfl
theorem at_int {X : cx} {q N : Nat} {c : ClassId} {f : Nat → Int32} {H : Heap} : va_at X.1 classes (q, .inl (c, N, .inl f)) H ↔ H[q]? = some (arrV c N (fun j => .int (f j))) := Iff.rfl
section MUL
variable {M : mi} {pc : Nat} {ls st : List av} {D : Dn} {lev mc ms n0 n a b : Nat} {Q : Option av → hpd → Prop}
theorem p_multi {idx : Nat} (a' b' : Nat) (hd : decode M.2.1 pc = .ok (.multianewarray idx 2, 4)) (hlk : Cond.classLink M.1.cls idx "[[I" ∈ lw_tbl) (hn : n0 + a = n) (h1 : 1 ≤ n) (ha' : a + 4 = a') (hb' : b + 39 = b') (hz : a' ≤ mc) (hs : b' ≤ ms)
    (h12 : KD n = 12) (ha : AL n = 3) (hl : ∀ j : Nat, j < 3 → lay n j = ((n + 1 + j : Nat) : Int)) (h9 : ∀ j : Nat, j < 3 → KD ((n + 1 + j : Nat) : Int) = 9 ∧ AL ((n + 1 + j : Nat) : Int) = 12 ∧ ∀ i, ini (n + 1 + j) i = 0) (hD : D n = fun _ => false)
    (kk : Run M (rxN lev mc ms n0 Q) (a', b') (pc + 4) ls (vR n :: st) (pg D (n + 4))) : Run M (rxN lev mc ms n0 Q) (a, b) pc ls (vI 12 :: vI 3 :: st) (pg D n) := by
  subst ha' hb'
  intro X p l e s m args below meth c H locs A hC hE hS hW hL
  intro T hT Xs
  have hsz := Xs.heapSize
  have hup := pg_up h1 hW
  have hE : s.heap.size = X.2.2.1 + n0 := hE
  rw [hT] at hsz
  have hH : H.size = X.2.2.1 + n := by omega
  have hts := hC.2.2.2.2.2.1
  have hK := hC.2.2.2.2.2.2.2.1
  have t3 : (Int32.ofInt 3).toNatClampNeg = 3 := by decide
  have t12 : (Int32.ofInt 12).toNatClampNeg = 12 := by decide
  obtain ⟨vm₁, cA, comp, -, fA, fC, -, -, X', step⟩ := Xs.multianewarray2F hC.1 (own := M.1.cls) (index := idx) (ty := .int) hC.2.2.2.2.1 (hts _ hlk) (hts _ jv_arr) (hts _ ja_int) (g := F0 m pc A (.int (Int32.ofInt 12) :: .int (Int32.ofInt 3) :: st.map (cv X))) rfl (by rw [hC.2.1]; exact hd) rfl (by decide) (by decide) (by decide) (by decide) (by decide) (by decide) (by decide) (by rw [t3]; exact hz) (by rw [t3, t12]; exact hs)
  have eA : some (X.2.1.2.2.2) = some cA := ((hK.2 3 _ rfl).2 : s.vm.findClass ("[" ++ (FieldType.array .int).toString) = some X.2.1.2.2.2).symm.trans fA
  have eC : some (X.2.1.1) = some comp := ((hK.2 0 _ rfl).2 : s.vm.findClass ("[" ++ FieldType.int.toString) = some X.2.1.1).symm.trans fC
  cases eA
  cases eC
  rw [t3, t12] at X' step
  generalize hF : Jvm.Free.Multi.fill (T.setVm vm₁) X.2.1.2.2.2 X.2.1.1 3 12 (defaultValue .int) 3 = F at X' step
  have hTh : (T.setVm vm₁).heap = H := hT
  obtain ⟨f1, f2, -, -⟩ := Jvm.Free.Multi.fill_facts (T.setVm vm₁) X.2.1.2.2.2 X.2.1.1 3 12 (defaultValue .int) 3
  rw [hF, hTh, hH] at f1 f2
  have hold : ∀ x : Nat, x < X.2.2.1 + n → F.heap[x]? = H[x]? := fun x hx => by
    have := Jvm.Free.Multi.fill_old (T.setVm vm₁) X.2.1.2.2.2 X.2.1.1 3 12 (defaultValue .int) (a := x) (by rw [hTh, hH]; exact hx) 3
    rw [hF, hTh] at this
    exact this
  have hrow : ∀ j : Nat, j < 3 → F.heap[X.2.2.1 + n + 1 + j]? = some (arrV X.2.1.1 12 (fun _ => .int 0)) := fun j hj => by
    have := Jvm.Free.Multi.fill_inner (T.setVm vm₁) X.2.1.2.2.2 X.2.1.1 3 12 (defaultValue .int) 3 j hj
    rw [hF, hTh, hH] at this
    rw [this]
    show some ({ cls := X.2.1.1, slots := Array.replicate 12 (.int 0), vm := .none } : Cell) = _
    rw [arrV_new]
  rw [outer_c] at f2
  have hW' : pg D (n + 4) X F.heap := by
    intro k q hq
    obtain ⟨hk, rfl⟩ := pw_of hq
    by_cases e : k < n
    · exact (hW k _ (pw_at e)).kept (hold _ (by show X.2.2.1 + k < X.2.2.1 + n; omega))
    · by_cases e0 : k = n
      · subst e0
        unfold pent
        rw [h12, if_neg (by decide), if_neg (by decide), if_neg (by decide), ha]
        refine (at_ref (N := 3)).mpr ?_
        rw [f2]
        refine congrArg some (cell_cg (fun j hj => ?_))
        rw [if_pos hj, hD, hl j hj]
        show va_rf (some (X.2.2.1 + k + 1 + j)) = va_rf (some (X.2.2.1 + ((k + 1 + j : Nat) : Int).toNat))
        rw [Int.toNat_natCast, show X.2.2.1 + k + 1 + j = X.2.2.1 + (k + 1 + j) by omega]
      · obtain ⟨j, hj, rfl⟩ : ∃ j, j < 3 ∧ k = n + 1 + j := ⟨k - (n + 1), by omega, by omega⟩
        obtain ⟨q1, q2, q3⟩ := h9 j hj
        unfold pent
        rw [q1, if_neg (by decide), if_pos (by decide), if_pos rfl, q2]
        refine (at_int (N := 12)).mpr ?_
        rw [show X.2.2.1 + (n + 1 + j) = X.2.2.1 + n + 1 + j by omega, hrow j hj]
        refine congrArg some (cell_cg (fun i _ => ?_))
        rw [q3 i]; rfl
  have kk' := kk X p l e s m args below meth c F.heap locs A hC hE ⟨by rw [f1]; have := hS.1; omega, fun x q1 q2 => by rw [hold x (by omega)]; exact hS.2.1 x q1 q2, hS.2.2⟩ hW' hL
  obtain ⟨t, a1, b1⟩ := kk' F rfl X'
  refine ⟨t, step t ?_, b1⟩
  have eh : T.heap.size = X.2.2.1 + n := by rw [hT, hH]
  rw [eh]
  rw [List.map_cons, cvR] at a1
  exact a1
end MUL
