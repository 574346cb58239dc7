-- ROWS over Run: an instruction each (written by wip/whole/gen_rul.py)
abbrev inR (x : Int) : Prop := -2147483648 ≤ x ∧ x < 2147483648
theorem tI {x : Int} (h : inR x) : (Int32.ofInt x).toInt = x := Int32.toInt_ofInt_of_le (by have := h.1; omega) (by have := h.2; omega)
theorem tN {x : Int} (h0 : 0 ≤ x) (h : x < 2147483648) : (Int32.ofInt x).toNatClampNeg = x.toNat := by
  show (Int32.ofInt x).toInt.toNat = _
  rw [tI ⟨by omega, h⟩]
theorem i_lt {x y : Int} (hx : inR x) (hy : inR y) : Int32.ofInt x < Int32.ofInt y ↔ x < y := by rw [Int32.lt_iff_toInt_lt, tI hx, tI hy]
theorem i_le {x y : Int} (hx : inR x) (hy : inR y) : Int32.ofInt x ≤ Int32.ofInt y ↔ x ≤ y := by rw [Int32.le_iff_toInt_le, tI hx, tI hy]
theorem i_eq {x y : Int} (hx : inR x) (hy : inR y) : Int32.ofInt x = Int32.ofInt y ↔ x = y := by rw [← Int32.toInt_inj, tI hx, tI hy]
theorem i_in {x : Int} {n : Nat} (h0 : 0 ≤ x) (h1 : x < n) (hn : n < 2147483648) : vp_in (Int32.ofInt x) n := by
  rw [vp_in_iff, tI ⟨by omega, by omega⟩]
  exact ⟨h0, h1⟩
theorem i_div {x y : Int} (hx : 0 ≤ x ∧ x < 2147483648) (hy : 0 < y ∧ y < 2147483648) : Int32.ofInt x / Int32.ofInt y = Int32.ofInt (x / y) := by
  have hx' : inR x := ⟨by omega, hx.2⟩
  have hy' : inR y := ⟨by omega, hy.2⟩
  have hq0 : 0 ≤ x / y := Int.ediv_nonneg hx.1 (by omega)
  have hq1 : x / y ≤ x := Int.ediv_le_self y hx.1
  rw [← Int32.toInt_inj, tI ⟨by omega, by omega⟩, Int32.toInt_div_of_ne_right, tI hx', tI hy', Int.tdiv_eq_ediv_of_nonneg hx.1]
  intro h
  have h2 := congrArg Int32.toInt h
  rw [tI hy'] at h2
  have h3 : (-1 : Int32).toInt = -1 := by decide
  rw [h3] at h2
  omega
theorem i_rem {x y : Int} (hx : 0 ≤ x ∧ x < 2147483648) (hy : 0 < y ∧ y < 2147483648) : Int32.ofInt x - Int32.ofInt x / Int32.ofInt y * Int32.ofInt y = Int32.ofInt (x % y) := by
  rw [i_div hx hy, ← Int32.ofInt_mul, ← Int32.ofInt_sub, Int.emod_def, Int.mul_comm]
theorem i_ne0 {y : Int} (hy : 0 < y ∧ y < 2147483648) : ¬ Int32.ofInt y = 0 := by
  intro h
  have h2 := congrArg Int32.toInt h
  rw [tI ⟨by omega, hy.2⟩] at h2
  have h3 : (0 : Int32).toInt = 0 := by decide
  rw [h3] at h2
  omega
theorem i_0 : (0 : Int32) = Int32.ofInt 0 := by decide
theorem i_l {x : Int} (h : inR x) : (Int32.ofInt x).toInt64 = Int64.ofInt x := by
  have h1 := h.1
  have h2 := h.2
  rw [← Int64.toInt_inj, Int32.toInt_toInt64, tI h, Int64.toInt_ofInt_of_le (by omega) (by omega)]
abbrev inL (x : Int) : Prop := -9223372036854775808 ≤ x ∧ x < 9223372036854775808
theorem tL {x : Int} (h : inL x) : (Int64.ofInt x).toInt = x := Int64.toInt_ofInt_of_le (by have := h.1; omega) (by have := h.2; omega)
def cmpI (x y : Int) : Int := if y < x then 1 else if x = y then 0 else -1
theorem l_cmp {x y : Int} (hx : inL x) (hy : inL y) : lg_cmp (Int64.ofInt x) (Int64.ofInt y) = Int32.ofInt (cmpI x y) := by
  unfold lg_cmp cmpI
  have h1 : (Int64.ofInt x > Int64.ofInt y) ↔ y < x := by
    show Int64.ofInt y < Int64.ofInt x ↔ _
    rw [Int64.lt_iff_toInt_lt, tL hx, tL hy]
  have h2 : (Int64.ofInt x = Int64.ofInt y) ↔ x = y := by rw [← Int64.toInt_inj, tL hx, tL hy]
  by_cases c1 : y < x
  · rw [if_pos (h1.mpr c1), if_pos c1]; decide
  · rw [if_neg (fun h => c1 (h1.mp h)), if_neg c1]
    by_cases c2 : x = y
    · rw [if_pos (h2.mpr c2), if_pos c2]; decide
    · rw [if_neg (fun h => c2 (h2.mp h)), if_neg c2]; decide
section RULES
variable {M : mi} {Rx : rx} {kz : Nat × Nat} {pc : Nat} {ls st : List av} {w : hpd}
theorem r_iconst {n : Int} (hd : decode M.2.1 pc = .ok (.iconst n, 1)) (k : Run M Rx kz (pc + 1) ls (vI n :: st) w) : Run M Rx kz pc ls st w := by
  intro X p l e s m args below meth c H locs A hC hE hS hW hL
  exact lv_iconst hC.1 hC.2.1 hd rfl (k X p l e s m args below meth c H locs A hC hE hS hW hL)
theorem r_bipush {n : Int} (hd : decode M.2.1 pc = .ok (.bipush n, 2)) (hn : (Int8.ofInt n).toInt32 = Int32.ofInt n) (k : Run M Rx kz (pc + 2) ls (vI n :: st) w) : Run M Rx kz pc ls st w := by
  intro X p l e s m args below meth c H locs A hC hE hS hW hL
  exact lv_bipush hC.1 hC.2.1 hd hn (k X p l e s m args below meth c H locs A hC hE hS hW hL)
theorem r_sipush {n : Int} (hd : decode M.2.1 pc = .ok (.sipush n, 3)) (hn : (Int16.ofInt n).toInt32 = Int32.ofInt n) (k : Run M Rx kz (pc + 3) ls (vI n :: st) w) : Run M Rx kz pc ls st w := by
  intro X p l e s m args below meth c H locs A hC hE hS hW hL
  exact lv_sipush hC.1 hC.2.1 hd hn (k X p l e s m args below meth c H locs A hC hE hS hW hL)
theorem r_ldc {i : Nat} {n : Int} (hc : Cond.constant M.1.cls i (Int32.ofInt n) ∈ lw_tbl) (hd : decode M.2.1 pc = .ok (.ldc i, 2)) (k : Run M Rx kz (pc + 2) ls (vI n :: st) w) : Run M Rx kz pc ls st w := by
  intro X p l e s m args below meth c H locs A hC hE hS hW hL
  exact lv_ldc hC.1 hC.2.1 hC.2.2.2.2.1 (hC.2.2.2.2.2.1 _ hc) hd (k X p l e s m args below meth c H locs A hC hE hS hW hL)
theorem r_ldc2 {i : Nat} {n : Int} (hc : Cond.constantLong M.1.cls i (Int64.ofInt n) ∈ lw_tbl) (hd : decode M.2.1 pc = .ok (.ldc2_w i, 3)) (k : Run M Rx kz (pc + 3) ls (vL n :: st) w) : Run M Rx kz pc ls st w := by
  intro X p l e s m args below meth c H locs A hC hE hS hW hL
  exact lv_ldc2 hC.1 hC.2.1 hC.2.2.2.2.1 (hC.2.2.2.2.2.1 _ hc) hd (k X p l e s m args below meth c H locs A hC hE hS hW hL)
theorem r_lconst {n : Fin 2} {z : Int} (hd : decode M.2.1 pc = .ok (.lconst n, 1)) (hz : Int64.ofNat (n : Nat) = Int64.ofInt z) (k : Run M Rx kz (pc + 1) ls (vL z :: st) w) : Run M Rx kz pc ls st w := by
  intro X p l e s m args below meth c H locs A hC hE hS hW hL
  exact lv_lconst hC.1 hC.2.1 hd hz (k X p l e s m args below meth c H locs A hC hE hS hW hL)
theorem r_iload_n {k : Fin 4} (i : Nat) {x : Int} (hd : decode M.2.1 pc = .ok (.iload_n k, 1)) (hk : (k : Nat) = i) (h : ls[i]? = some (vI x)) (kk : Run M Rx kz (pc + 1) ls (vI x :: st) w) : Run M Rx kz pc ls st w := by
  intro X p l e s m args below meth c H locs A hC hE hS hW hL
  exact lv_iload_n hC.1 hC.2.1 hd hk (hL.2.2 _ _ h vI_ne) (kk X p l e s m args below meth c H locs A hC hE hS hW hL)
theorem r_iload (i : Nat) {x : Int} (hd : decode M.2.1 pc = .ok (.iload i, 2)) (h : ls[i]? = some (vI x)) (kk : Run M Rx kz (pc + 2) ls (vI x :: st) w) : Run M Rx kz pc ls st w := by
  intro X p l e s m args below meth c H locs A hC hE hS hW hL
  exact lv_iload hC.1 hC.2.1 hd (hL.2.2 _ _ h vI_ne) (kk X p l e s m args below meth c H locs A hC hE hS hW hL)
theorem r_lload_n {k : Fin 4} (i : Nat) {x : Int} (hd : decode M.2.1 pc = .ok (.lload_n k, 1)) (hk : (k : Nat) = i) (h : ls[i]? = some (vL x)) (kk : Run M Rx kz (pc + 1) ls (vL x :: st) w) : Run M Rx kz pc ls st w := by
  intro X p l e s m args below meth c H locs A hC hE hS hW hL
  exact lv_lload_n hC.1 hC.2.1 hd hk (hL.2.2 _ _ h vL_ne) (kk X p l e s m args below meth c H locs A hC hE hS hW hL)
theorem r_lload (i : Nat) {x : Int} (hd : decode M.2.1 pc = .ok (.lload i, 2)) (h : ls[i]? = some (vL x)) (kk : Run M Rx kz (pc + 2) ls (vL x :: st) w) : Run M Rx kz pc ls st w := by
  intro X p l e s m args below meth c H locs A hC hE hS hW hL
  exact lv_lload hC.1 hC.2.1 hd (hL.2.2 _ _ h vL_ne) (kk X p l e s m args below meth c H locs A hC hE hS hW hL)
theorem r_aload_n {k : Fin 4} (i : Nat) {x : Int} (hd : decode M.2.1 pc = .ok (.aload_n k, 1)) (hk : (k : Nat) = i) (h : ls[i]? = some (vR x)) (kk : Run M Rx kz (pc + 1) ls (vR x :: st) w) : Run M Rx kz pc ls st w := by
  intro X p l e s m args below meth c H locs A hC hE hS hW hL
  exact lv_aload_n hC.1 hC.2.1 hd hk (hL.2.2 _ _ h vR_ne) (kk X p l e s m args below meth c H locs A hC hE hS hW hL)
theorem r_aload (i : Nat) {x : Int} (hd : decode M.2.1 pc = .ok (.aload i, 2)) (h : ls[i]? = some (vR x)) (kk : Run M Rx kz (pc + 2) ls (vR x :: st) w) : Run M Rx kz pc ls st w := by
  intro X p l e s m args below meth c H locs A hC hE hS hW hL
  exact lv_aload hC.1 hC.2.1 hd (hL.2.2 _ _ h vR_ne) (kk X p l e s m args below meth c H locs A hC hE hS hW hL)
theorem r_istore_n {k : Fin 4} (i : Nat) {x : Int} (hd : decode M.2.1 pc = .ok (.istore_n k, 1)) (hk : (k : Nat) = i) (hi : i < M.2.2.1) (hno : noL ls = true) (kk : Run M Rx kz (pc + 1) (ls.set i (vI x)) st w) : Run M Rx kz pc ls (vI x :: st) w := by
  intro X p l e s m args below meth c H locs A hC hE hS hW hL
  exact lv_istore_n hC.1 hC.2.1 hd hk (lrel_has hL) hi rfl (fun A2 h => kk X p l e s m args below meth c H locs _ hC hE hS hW (lrel_store (v := vI x) hL hno rfl h))
theorem r_istore (i : Nat) {x : Int} (hd : decode M.2.1 pc = .ok (.istore i, 2)) (hi : i < M.2.2.1) (hno : noL ls = true) (kk : Run M Rx kz (pc + 2) (ls.set i (vI x)) st w) : Run M Rx kz pc ls (vI x :: st) w := by
  intro X p l e s m args below meth c H locs A hC hE hS hW hL
  exact lv_istore hC.1 hC.2.1 hd (lrel_has hL) hi rfl (fun A2 h => kk X p l e s m args below meth c H locs _ hC hE hS hW (lrel_store (v := vI x) hL hno rfl h))
theorem r_astore_n {k : Fin 4} (i : Nat) {x : Int} (hd : decode M.2.1 pc = .ok (.astore_n k, 1)) (hk : (k : Nat) = i) (hi : i < M.2.2.1) (hno : noL ls = true) (kk : Run M Rx kz (pc + 1) (ls.set i (vR x)) st w) : Run M Rx kz pc ls (vR x :: st) w := by
  intro X p l e s m args below meth c H locs A hC hE hS hW hL
  exact lv_astore_n hC.1 hC.2.1 hd hk (lrel_has hL) hi rfl (fun A2 h => kk X p l e s m args below meth c H locs _ hC hE hS hW (lrel_store (v := vR x) hL hno rfl h))
theorem r_astore (i : Nat) {x : Int} (hd : decode M.2.1 pc = .ok (.astore i, 2)) (hi : i < M.2.2.1) (hno : noL ls = true) (kk : Run M Rx kz (pc + 2) (ls.set i (vR x)) st w) : Run M Rx kz pc ls (vR x :: st) w := by
  intro X p l e s m args below meth c H locs A hC hE hS hW hL
  exact lv_astore hC.1 hC.2.1 hd (lrel_has hL) hi rfl (fun A2 h => kk X p l e s m args below meth c H locs _ hC hE hS hW (lrel_store (v := vR x) hL hno rfl h))
theorem r_iinc (i : Nat) {n x : Int} (hd : decode M.2.1 pc = .ok (.iinc i n, 3)) (h : ls[i]? = some (vI x)) (hi : i < M.2.2.1) (hno : noL ls = true) (kk : Run M Rx kz (pc + 3) (ls.set i (vI (x + n))) st w) : Run M Rx kz pc ls st w := by
  intro X p l e s m args below meth c H locs A hC hE hS hW hL
  have h0 : lv_has A M.2.2.1 ((i, .int (Int32.ofInt x)) :: lvl X ls) := by
    have h1 := lrel_has hL
    refine ⟨h1.1, h1.2.1, fun q hq => ?_⟩
    rcases List.mem_cons.mp hq with rfl | hq
    · exact hL.2.2 i _ h vI_ne
    · exact h1.2.2 q hq
  refine lv_iinc (v := Int32.ofInt (x + n)) (k := 0) hC.1 hC.2.1 hd h0 rfl (Int32.ofInt_add x n).symm hi rfl (fun A2 h2 => kk X p l e s m args below meth c H locs A2 hC hE hS hW (lrel_store (v := vI (x + n)) hL hno rfl ⟨h2.1, h2.2.1, fun q hq => h2.2.2 q ?_⟩))
  rcases List.mem_cons.mp hq with rfl | hq
  · exact List.mem_cons_self
  · refine List.mem_cons_of_mem _ ?_
    rw [List.filter_cons]
    split
    · exact List.mem_cons_of_mem _ hq
    · exact hq
theorem r_iadd {x y : Int} (hd : decode M.2.1 pc = .ok (.iadd, 1)) (k : Run M Rx kz (pc + 1) ls (vI (x + y) :: st) w) : Run M Rx kz pc ls (vI y :: vI x :: st) w := by
  intro X p l e s m args below meth c H locs A hC hE hS hW hL
  refine lv_iadd hC.1 hC.2.1 hd ?_
  rw [← Int32.ofInt_add]
  exact k X p l e s m args below meth c H locs A hC hE hS hW hL
theorem r_isub {x y : Int} (hd : decode M.2.1 pc = .ok (.isub, 1)) (k : Run M Rx kz (pc + 1) ls (vI (x - y) :: st) w) : Run M Rx kz pc ls (vI y :: vI x :: st) w := by
  intro X p l e s m args below meth c H locs A hC hE hS hW hL
  refine lv_isub hC.1 hC.2.1 hd ?_
  rw [← Int32.ofInt_sub]
  exact k X p l e s m args below meth c H locs A hC hE hS hW hL
theorem r_imul {x y : Int} (hd : decode M.2.1 pc = .ok (.imul, 1)) (k : Run M Rx kz (pc + 1) ls (vI (x * y) :: st) w) : Run M Rx kz pc ls (vI y :: vI x :: st) w := by
  intro X p l e s m args below meth c H locs A hC hE hS hW hL
  refine lv_imul hC.1 hC.2.1 hd ?_
  rw [← Int32.ofInt_mul]
  exact k X p l e s m args below meth c H locs A hC hE hS hW hL
theorem r_ineg {x : Int} (hd : decode M.2.1 pc = .ok (.ineg, 1)) (k : Run M Rx kz (pc + 1) ls (vI (-x) :: st) w) : Run M Rx kz pc ls (vI x :: st) w := by
  intro X p l e s m args below meth c H locs A hC hE hS hW hL
  refine lv_ineg hC.1 hC.2.1 hd ?_
  rw [← Int32.ofInt_neg]
  exact k X p l e s m args below meth c H locs A hC hE hS hW hL
theorem r_idiv {x y : Int} (hd : decode M.2.1 pc = .ok (.idiv, 1)) (hx : 0 ≤ x ∧ x < 2147483648) (hy : 0 < y ∧ y < 2147483648) (k : Run M Rx kz (pc + 1) ls (vI (x / y) :: st) w) : Run M Rx kz pc ls (vI y :: vI x :: st) w := by
  intro X p l e s m args below meth c H locs A hC hE hS hW hL
  refine lv_idiv hC.1 hC.2.1 hd (i_ne0 hy) ?_
  rw [i_div hx hy]
  exact k X p l e s m args below meth c H locs A hC hE hS hW hL
theorem r_irem {x y : Int} (hd : decode M.2.1 pc = .ok (.irem, 1)) (hx : 0 ≤ x ∧ x < 2147483648) (hy : 0 < y ∧ y < 2147483648) (k : Run M Rx kz (pc + 1) ls (vI (x % y) :: st) w) : Run M Rx kz pc ls (vI y :: vI x :: st) w := by
  intro X p l e s m args below meth c H locs A hC hE hS hW hL
  refine lv_irem hC.1 hC.2.1 hd (i_ne0 hy) ?_
  rw [i_rem hx hy]
  exact k X p l e s m args below meth c H locs A hC hE hS hW hL
theorem r_ishl {x y z : Int} (hd : decode M.2.1 pc = .ok (.ishl, 1)) (hz : Int32.ofInt x <<< (Int32.ofInt y &&& 31) = Int32.ofInt z) (k : Run M Rx kz (pc + 1) ls (vI z :: st) w) : Run M Rx kz pc ls (vI y :: vI x :: st) w := by
  intro X p l e s m args below meth c H locs A hC hE hS hW hL
  refine lv_ishl hC.1 hC.2.1 hd ?_
  rw [hz]
  exact k X p l e s m args below meth c H locs A hC hE hS hW hL
theorem r_ishr {x y z : Int} (hd : decode M.2.1 pc = .ok (.ishr, 1)) (hz : Int32.ofInt x >>> (Int32.ofInt y &&& 31) = Int32.ofInt z) (k : Run M Rx kz (pc + 1) ls (vI z :: st) w) : Run M Rx kz pc ls (vI y :: vI x :: st) w := by
  intro X p l e s m args below meth c H locs A hC hE hS hW hL
  refine lv_ishr hC.1 hC.2.1 hd ?_
  rw [hz]
  exact k X p l e s m args below meth c H locs A hC hE hS hW hL
theorem r_iand {x y z : Int} (hd : decode M.2.1 pc = .ok (.iand, 1)) (hz : Int32.ofInt x &&& Int32.ofInt y = Int32.ofInt z) (k : Run M Rx kz (pc + 1) ls (vI z :: st) w) : Run M Rx kz pc ls (vI y :: vI x :: st) w := by
  intro X p l e s m args below meth c H locs A hC hE hS hW hL
  refine lv_iand hC.1 hC.2.1 hd ?_
  rw [hz]
  exact k X p l e s m args below meth c H locs A hC hE hS hW hL
theorem r_ior {x y z : Int} (hd : decode M.2.1 pc = .ok (.ior, 1)) (hz : Int32.ofInt x ||| Int32.ofInt y = Int32.ofInt z) (k : Run M Rx kz (pc + 1) ls (vI z :: st) w) : Run M Rx kz pc ls (vI y :: vI x :: st) w := by
  intro X p l e s m args below meth c H locs A hC hE hS hW hL
  refine lv_ior hC.1 hC.2.1 hd ?_
  rw [hz]
  exact k X p l e s m args below meth c H locs A hC hE hS hW hL
theorem r_ladd {x y : Int} (hd : decode M.2.1 pc = .ok (.ladd, 1)) (k : Run M Rx kz (pc + 1) ls (vL (x + y) :: st) w) : Run M Rx kz pc ls (vL y :: vL x :: st) w := by
  intro X p l e s m args below meth c H locs A hC hE hS hW hL
  refine lv_ladd hC.1 hC.2.1 hd ?_
  rw [← Int64.ofInt_add]
  exact k X p l e s m args below meth c H locs A hC hE hS hW hL
theorem r_i2l {x : Int} (hd : decode M.2.1 pc = .ok (.i2l, 1)) (hx : inR x) (k : Run M Rx kz (pc + 1) ls (vL x :: st) w) : Run M Rx kz pc ls (vI x :: st) w := by
  intro X p l e s m args below meth c H locs A hC hE hS hW hL
  exact lv_i2l hC.1 hC.2.1 hd (i_l hx) (k X p l e s m args below meth c H locs A hC hE hS hW hL)
theorem r_lcmp {x y : Int} (hd : decode M.2.1 pc = .ok (.lcmp, 1)) (hx : inL x) (hy : inL y) (k : Run M Rx kz (pc + 1) ls (vI (cmpI x y) :: st) w) : Run M Rx kz pc ls (vL y :: vL x :: st) w := by
  intro X p l e s m args below meth c H locs A hC hE hS hW hL
  refine W.lcmp hC.1 hC.2.1 hd ?_
  rw [l_cmp hx hy]
  exact k X p l e s m args below meth c H locs A hC hE hS hW hL
theorem r_dup {v : av} (hd : decode M.2.1 pc = .ok (.dup, 1)) (hv : catv v = 1) (k : Run M Rx kz (pc + 1) ls (v :: v :: st) w) : Run M Rx kz pc ls (v :: st) w := by
  intro X p l e s m args below meth c H locs A hC hE hS hW hL
  exact lv_dup hC.1 hC.2.1 hd (by rw [cv_cat]; exact hv) (k X p l e s m args below meth c H locs A hC hE hS hW hL)
theorem r_dup2 {u v : av} (hd : decode M.2.1 pc = .ok (.dup2, 1)) (hu : catv u = 1) (hv : catv v = 1) (k : Run M Rx kz (pc + 1) ls (u :: v :: u :: v :: st) w) : Run M Rx kz pc ls (u :: v :: st) w := by
  intro X p l e s m args below meth c H locs A hC hE hS hW hL
  exact lv_dup2_11 hC.1 hC.2.1 hd (by rw [cv_cat]; exact hu) (by rw [cv_cat]; exact hv) (k X p l e s m args below meth c H locs A hC hE hS hW hL)
theorem r_pop {v : av} (hd : decode M.2.1 pc = .ok (.pop, 1)) (hv : catv v = 1) (k : Run M Rx kz (pc + 1) ls st w) : Run M Rx kz pc ls (v :: st) w := by
  intro X p l e s m args below meth c H locs A hC hE hS hW hL
  exact lv_pop hC.1 hC.2.1 hd (by rw [cv_cat]; exact hv) (k X p l e s m args below meth c H locs A hC hE hS hW hL)
theorem r_goto {off : Int} (tgt : Nat) (hd : decode M.2.1 pc = .ok (.goto off, 3)) (ht : (pc : Int) + off = (tgt : Int)) (k : Run M Rx kz tgt ls st w) : Run M Rx kz pc ls st w := by
  intro X p l e s m args below meth c H locs A hC hE hS hW hL
  exact lv_goto hC.1 hC.2.1 hd ht (k X p l e s m args below meth c H locs A hC hE hS hW hL)
theorem r_icmp_lt {x y off : Int} (tgt : Nat) (hd : decode M.2.1 pc = .ok (.if_icmp .lt off, 3)) (ht : (pc : Int) + off = (tgt : Int)) (hx : inR x) (hy : inR y) (kt : x < y → Run M Rx kz tgt ls st w) (kf : y ≤ x → Run M Rx kz (pc + 3) ls st w) : Run M Rx kz pc ls (vI y :: vI x :: st) w := by
  intro X p l e s m args below meth c H locs A hC hE hS hW hL
  exact lv_icmp_lt hC.1 hC.2.1 hd ht (fun h => kt ((i_lt hx hy).mp h) X p l e s m args below meth c H locs A hC hE hS hW hL) (fun h => kf (Int.not_lt.mp (fun q => h ((i_lt hx hy).mpr q))) X p l e s m args below meth c H locs A hC hE hS hW hL)
theorem r_if_lt {x off : Int} (tgt : Nat) (hd : decode M.2.1 pc = .ok (.ifCond .lt off, 3)) (ht : (pc : Int) + off = (tgt : Int)) (hx : inR x) (kt : x < 0 → Run M Rx kz tgt ls st w) (kf : 0 ≤ x → Run M Rx kz (pc + 3) ls st w) : Run M Rx kz pc ls (vI x :: st) w := by
  intro X p l e s m args below meth c H locs A hC hE hS hW hL
  have hy : inR 0 := by decide
  exact lv_if_lt hC.1 hC.2.1 hd ht (fun h => kt (by rw [i_0] at h; exact (i_lt hx hy).mp h) X p l e s m args below meth c H locs A hC hE hS hW hL) (fun h => kf (by rw [i_0] at h; exact Int.not_lt.mp (fun q => h ((i_lt hx hy).mpr q))) X p l e s m args below meth c H locs A hC hE hS hW hL)
theorem r_icmp_ge {x y off : Int} (tgt : Nat) (hd : decode M.2.1 pc = .ok (.if_icmp .ge off, 3)) (ht : (pc : Int) + off = (tgt : Int)) (hx : inR x) (hy : inR y) (kt : y ≤ x → Run M Rx kz tgt ls st w) (kf : x < y → Run M Rx kz (pc + 3) ls st w) : Run M Rx kz pc ls (vI y :: vI x :: st) w := by
  intro X p l e s m args below meth c H locs A hC hE hS hW hL
  exact lv_icmp_ge hC.1 hC.2.1 hd ht (fun h => kt ((i_le hy hx).mp h) X p l e s m args below meth c H locs A hC hE hS hW hL) (fun h => kf (Int.not_le.mp (fun q => h ((i_le hy hx).mpr q))) X p l e s m args below meth c H locs A hC hE hS hW hL)
theorem r_if_ge {x off : Int} (tgt : Nat) (hd : decode M.2.1 pc = .ok (.ifCond .ge off, 3)) (ht : (pc : Int) + off = (tgt : Int)) (hx : inR x) (kt : 0 ≤ x → Run M Rx kz tgt ls st w) (kf : x < 0 → Run M Rx kz (pc + 3) ls st w) : Run M Rx kz pc ls (vI x :: st) w := by
  intro X p l e s m args below meth c H locs A hC hE hS hW hL
  have hy : inR 0 := by decide
  exact lv_if_ge hC.1 hC.2.1 hd ht (fun h => kt (by rw [i_0] at h; exact (i_le hy hx).mp h) X p l e s m args below meth c H locs A hC hE hS hW hL) (fun h => kf (by rw [i_0] at h; exact Int.not_le.mp (fun q => h ((i_le hy hx).mpr q))) X p l e s m args below meth c H locs A hC hE hS hW hL)
theorem r_icmp_le {x y off : Int} (tgt : Nat) (hd : decode M.2.1 pc = .ok (.if_icmp .le off, 3)) (ht : (pc : Int) + off = (tgt : Int)) (hx : inR x) (hy : inR y) (kt : x ≤ y → Run M Rx kz tgt ls st w) (kf : y < x → Run M Rx kz (pc + 3) ls st w) : Run M Rx kz pc ls (vI y :: vI x :: st) w := by
  intro X p l e s m args below meth c H locs A hC hE hS hW hL
  exact lv_icmp_le hC.1 hC.2.1 hd ht (fun h => kt ((i_le hx hy).mp h) X p l e s m args below meth c H locs A hC hE hS hW hL) (fun h => kf (Int.not_le.mp (fun q => h ((i_le hx hy).mpr q))) X p l e s m args below meth c H locs A hC hE hS hW hL)
theorem r_if_le {x off : Int} (tgt : Nat) (hd : decode M.2.1 pc = .ok (.ifCond .le off, 3)) (ht : (pc : Int) + off = (tgt : Int)) (hx : inR x) (kt : x ≤ 0 → Run M Rx kz tgt ls st w) (kf : 0 < x → Run M Rx kz (pc + 3) ls st w) : Run M Rx kz pc ls (vI x :: st) w := by
  intro X p l e s m args below meth c H locs A hC hE hS hW hL
  have hy : inR 0 := by decide
  exact lv_if_le hC.1 hC.2.1 hd ht (fun h => kt (by rw [i_0] at h; exact (i_le hx hy).mp h) X p l e s m args below meth c H locs A hC hE hS hW hL) (fun h => kf (by rw [i_0] at h; exact Int.not_le.mp (fun q => h ((i_le hx hy).mpr q))) X p l e s m args below meth c H locs A hC hE hS hW hL)
theorem r_icmp_gt {x y off : Int} (tgt : Nat) (hd : decode M.2.1 pc = .ok (.if_icmp .gt off, 3)) (ht : (pc : Int) + off = (tgt : Int)) (hx : inR x) (hy : inR y) (kt : y < x → Run M Rx kz tgt ls st w) (kf : x ≤ y → Run M Rx kz (pc + 3) ls st w) : Run M Rx kz pc ls (vI y :: vI x :: st) w := by
  intro X p l e s m args below meth c H locs A hC hE hS hW hL
  exact lv_icmp_gt hC.1 hC.2.1 hd ht (fun h => kt ((i_lt hy hx).mp h) X p l e s m args below meth c H locs A hC hE hS hW hL) (fun h => kf (Int.not_lt.mp (fun q => h ((i_lt hy hx).mpr q))) X p l e s m args below meth c H locs A hC hE hS hW hL)
theorem r_if_gt {x off : Int} (tgt : Nat) (hd : decode M.2.1 pc = .ok (.ifCond .gt off, 3)) (ht : (pc : Int) + off = (tgt : Int)) (hx : inR x) (kt : 0 < x → Run M Rx kz tgt ls st w) (kf : x ≤ 0 → Run M Rx kz (pc + 3) ls st w) : Run M Rx kz pc ls (vI x :: st) w := by
  intro X p l e s m args below meth c H locs A hC hE hS hW hL
  have hy : inR 0 := by decide
  exact lv_if_gt hC.1 hC.2.1 hd ht (fun h => kt (by rw [i_0] at h; exact (i_lt hy hx).mp h) X p l e s m args below meth c H locs A hC hE hS hW hL) (fun h => kf (by rw [i_0] at h; exact Int.not_lt.mp (fun q => h ((i_lt hy hx).mpr q))) X p l e s m args below meth c H locs A hC hE hS hW hL)
theorem r_icmp_eq {x y off : Int} (tgt : Nat) (hd : decode M.2.1 pc = .ok (.if_icmp .eq off, 3)) (ht : (pc : Int) + off = (tgt : Int)) (hx : inR x) (hy : inR y) (kt : x = y → Run M Rx kz tgt ls st w) (kf : x ≠ y → Run M Rx kz (pc + 3) ls st w) : Run M Rx kz pc ls (vI y :: vI x :: st) w := by
  intro X p l e s m args below meth c H locs A hC hE hS hW hL
  exact lv_icmp_eq hC.1 hC.2.1 hd ht (fun h => kt ((i_eq hx hy).mp h) X p l e s m args below meth c H locs A hC hE hS hW hL) (fun h => kf ((fun q => h ((i_eq hx hy).mpr q))) X p l e s m args below meth c H locs A hC hE hS hW hL)
theorem r_if_eq {x off : Int} (tgt : Nat) (hd : decode M.2.1 pc = .ok (.ifCond .eq off, 3)) (ht : (pc : Int) + off = (tgt : Int)) (hx : inR x) (kt : x = 0 → Run M Rx kz tgt ls st w) (kf : x ≠ 0 → Run M Rx kz (pc + 3) ls st w) : Run M Rx kz pc ls (vI x :: st) w := by
  intro X p l e s m args below meth c H locs A hC hE hS hW hL
  have hy : inR 0 := by decide
  exact lv_if_eq hC.1 hC.2.1 hd ht (fun h => kt (by rw [i_0] at h; exact (i_eq hx hy).mp h) X p l e s m args below meth c H locs A hC hE hS hW hL) (fun h => kf (by rw [i_0] at h; exact (fun q => h ((i_eq hx hy).mpr q))) X p l e s m args below meth c H locs A hC hE hS hW hL)
theorem r_icmp_ne {x y off : Int} (tgt : Nat) (hd : decode M.2.1 pc = .ok (.if_icmp .ne off, 3)) (ht : (pc : Int) + off = (tgt : Int)) (hx : inR x) (hy : inR y) (kt : x ≠ y → Run M Rx kz tgt ls st w) (kf : x = y → Run M Rx kz (pc + 3) ls st w) : Run M Rx kz pc ls (vI y :: vI x :: st) w := by
  intro X p l e s m args below meth c H locs A hC hE hS hW hL
  exact lv_icmp_ne hC.1 hC.2.1 hd ht (fun h => kt ((fun q => h ((i_eq hx hy).mpr q))) X p l e s m args below meth c H locs A hC hE hS hW hL) (fun h => kf ((i_eq hx hy).mp h) X p l e s m args below meth c H locs A hC hE hS hW hL)
theorem r_if_ne {x off : Int} (tgt : Nat) (hd : decode M.2.1 pc = .ok (.ifCond .ne off, 3)) (ht : (pc : Int) + off = (tgt : Int)) (hx : inR x) (kt : x ≠ 0 → Run M Rx kz tgt ls st w) (kf : x = 0 → Run M Rx kz (pc + 3) ls st w) : Run M Rx kz pc ls (vI x :: st) w := by
  intro X p l e s m args below meth c H locs A hC hE hS hW hL
  have hy : inR 0 := by decide
  exact lv_if_ne hC.1 hC.2.1 hd ht (fun h => kt (by rw [i_0] at h; exact (fun q => h ((i_eq hx hy).mpr q))) X p l e s m args below meth c H locs A hC hE hS hW hL) (fun h => kf (by rw [i_0] at h; exact (i_eq hx hy).mp h) X p l e s m args below meth c H locs A hC hE hS hW hL)
theorem r_tableIn {dflt lo hi : Int} {offs : Array Int} {len : Nat} {x off : Int} (tgt : Nat) (hd : decode M.2.1 pc = .ok (.tableswitch dflt lo hi offs, len)) (hx : inR x) (h1 : lo ≤ x) (h2 : x ≤ hi) (ho : offs[(x - lo).toNat]? = some off) (ht : (pc : Int) + off = (tgt : Int)) (k : Run M Rx kz tgt ls st w) : Run M Rx kz pc ls (vI x :: st) w := by
  intro X p l e s m args below meth c H locs A hC hE hS hW hL
  exact lv_tableIn hC.1 hC.2.1 hd (by rw [tI hx]; omega) (by rw [tI hx]; omega) (by rw [tI hx]; exact ho) ht (k X p l e s m args below meth c H locs A hC hE hS hW hL)
theorem r_tableOut {dflt lo hi : Int} {offs : Array Int} {len : Nat} {x : Int} (tgt : Nat) (hd : decode M.2.1 pc = .ok (.tableswitch dflt lo hi offs, len)) (hx : inR x) (h : x < lo ∨ hi < x) (ht : (pc : Int) + dflt = (tgt : Int)) (k : Run M Rx kz tgt ls st w) : Run M Rx kz pc ls (vI x :: st) w := by
  intro X p l e s m args below meth c H locs A hC hE hS hW hL
  exact lv_tableOut hC.1 hC.2.1 hd (by rw [tI hx]; exact h) ht (k X p l e s m args below meth c H locs A hC hE hS hW hL)
end RULES
theorem r_iret {M : mi} {lev mc ms pc : Nat} {ls : List av} {x : Int} {w : hpd} {Q : Option av → hpd → Prop} (hd : decode M.2.1 pc = .ok (.ireturn, 1)) (hr : M.2.2.2 = some .int) (hQ : Q (some (vI x)) w) : Run M (rxM lev mc ms Q) (mc, ms) pc ls [vI x] w := by
  intro X p l e s m args below meth c H locs A hC hE hS hW hL
  exact W.iret hC.1 hC.2.1 (hC.2.2.1.trans hr) (fun t ht hWm => ⟨⟨some (vI x), w, rfl, hQ, by rw [ht]; exact hW, va_K.moved hWm.alike hC.2.2.2.2.2.2.2.1⟩, hS.F ht⟩) hS.2.2 hd hC.2.2.2.2.2.2.1
theorem r_zret {M : mi} {lev mc ms pc : Nat} {ls : List av} {x : Int} {w : hpd} {Q : Option av → hpd → Prop} (hd : decode M.2.1 pc = .ok (.ireturn, 1)) (hr : M.2.2.2 = some .boolean) (hx : x = 0 ∨ x = 1) (hQ : Q (some (vI x)) w) : Run M (rxM lev mc ms Q) (mc, ms) pc ls [vI x] w := by
  intro X p l e s m args below meth c H locs A hC hE hS hW hL
  exact W.zret hC.1 hC.2.1 (hC.2.2.1.trans hr) (by rcases hx with rfl | rfl <;> decide) (fun t ht hWm => ⟨⟨some (vI x), w, rfl, hQ, by rw [ht]; exact hW, va_K.moved hWm.alike hC.2.2.2.2.2.2.2.1⟩, hS.F ht⟩) hS.2.2 hd hC.2.2.2.2.2.2.1
theorem r_vret {M : mi} {lev mc ms pc : Nat} {ls : List av} {w : hpd} {Q : Option av → hpd → Prop} (hd : decode M.2.1 pc = .ok (.return_, 1)) (hr : M.2.2.2 = none) (hQ : Q none w) : Run M (rxM lev mc ms Q) (mc, ms) pc ls [] w := by
  intro X p l e s m args below meth c H locs A hC hE hS hW hL
  exact W.vret hC.1 hC.2.1 (hC.2.2.1.trans hr) (fun t ht hWm => ⟨⟨none, w, rfl, hQ, by rw [ht]; exact hW, va_K.moved hWm.alike hC.2.2.2.2.2.2.2.1⟩, hS.F ht⟩) hS.2.2 hd hC.2.2.2.2.2.2.1
