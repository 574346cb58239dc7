-- THE LAW: its own rows (written by wip/whole/gen_law.py)
/-! THE CLAIM OUT OF ONE WALK OF THE LAW'S BODY. Your part is whole_start (and what it stands on); all else here is the same for every law, but numbers. -/
def R_law : String := "VanRoundsLaw"
def lw_P (b : Addr) (xs : List Int32) (args : Array Value) (s : State) : Prop := args = #[.ref b] ∧ s.IntsAt b xs ∧ xs.length ≤ 2560 ∧ (Jvm.Cond.and given_1 narrow_1).before args s = true
def lw_Q (_ : Array Value) (s : State) (o : Outcome) (t : State) : Prop := o = .returned (some (.int 1)) ∧ Framed s o t [] 600000 7302250
def lw_Z (below : List Frame) (a : Array Value) (s : State) : State → Prop := fun t => ∃ o, t.status = .running ∧ Ended t below o ∧ lw_Q a s o t
/-- the law's own end, with 1 on the stack, nothing written that was there before, its room as the claim has it -/
theorem lw_ret {p : Program} {l : Launch} {e : Env} {s : State} {m : MethodId} {below : List Frame} {meth : Method} {c : Code} {b : Nat} (hx : p.tables.exec = Jvm.exec) (hb : c.code = code) (hr : meth.sig.returnType = ret) (hlocks : meth.locks = false) {pc : Nat} {H : Heap} {ls : Array Slot} (hdg : decode code pc = .ok (.ireturn, 1)) : W p l e room_1 s m #[Value.ref b] below meth c H [] 600000 7302250 (lw_Z below #[Value.ref b] s) (F0 m pc ls [.int 1]) := by
  intro T hT X
  obtain ⟨fs, hret, hrun, hended, hW, hframe⟩ := X.leave (v := some (.int 1)) (hlocks := hlocks) (fun h => by rw [hr] at h; cases h)
  have hmeth' : T.vm.method? m = some meth := X.method'
  refine ⟨T.setFrames fs, ?_, .returned (some (.int 1)), hrun, hended, rfl, ⟨_, rfl⟩, hW, hframe⟩
  jvm_step X.here [X.here.top, hx, hb, hdg, hmeth', hr, ret, narrow_b1]
  (try refine ⟨rfl, ?_⟩); (try refine ⟨rfl, ?_⟩)
  first | (intro acts; rw [hret _ acts rfl rfl rfl]) | rw [hret _ _ rfl rfl rfl]
  exact Steps.refl _
/-- what holds at the law's entry: the machine, the code, the tables' words (any of lw_tbl by 'hts w (by decide +kernel)'), the script of L ints xs at the cell b, what the Statement gives of the start (any of its parts by flat_of_before) -/
def lw_At (p : Program) (s : State) (m : MethodId) (meth : Method) (c : Code) (b L : Nat) (xs : Nat → Int32) : Prop :=
  p.tables.exec = Jvm.exec ∧ c.code = code ∧ meth.sig.returnType = ret ∧ c.maxLocals = 4 ∧ s.vm.findClass R_law = some m.cls ∧ (∀ w ∈ lw_tbl, w.before #[Value.ref b] s = true) ∧ va_X b L xs s s.heap ∧ b < s.heap.size ∧ meth.locks = false ∧ (Jvm.Cond.and given_1 narrow_1).before #[Value.ref b] s = true
/-- the law as a method, its room, its end -/
def M_Law (nm : String) : mi := (⟨"VanRoundsLaw", nm, "([I)Z"⟩, code, 4, ret)
def rxL (L : Nat) (xs : Nat → Int32) : rx := (room_1, fun X s args => X.2.2.1 = s.heap.size ∧ va_X X.2.2.2 L xs s s.heap ∧ X.2.2.2 < s.heap.size ∧ args = #[Value.ref X.2.2.2], fun _ below args s => lw_Z below args s)
theorem law_X {s : State} {args : Array Value} (b : Nat) (hts : ∀ w ∈ lw_tbl, w.before args s = true) : ∃ X : cx, X.2.2.1 = s.heap.size ∧ X.2.2.2 = b ∧ va_K X.1 classes (tysX X) s := by
  obtain ⟨c0, s0, h0⟩ := u_known hts i_Past (hts _ mk_Past)
  obtain ⟨c1, s1, h1⟩ := u_known hts i_Plan (hts _ mk_Plan)
  obtain ⟨c2, s2, h2⟩ := u_known hts i_Planner (hts _ mk_Planner)
  obtain ⟨c3, s3, h3⟩ := u_known hts i_Stops (hts _ mk_Stops)
  obtain ⟨c4, s4, h4⟩ := u_known hts i_Town (hts _ mk_Town)
  obtain ⟨c5, s5, h5⟩ := u_known hts i_Trip (hts _ mk_Trip)
  obtain ⟨c6, s6, h6⟩ := u_known hts i_Vans (hts _ mk_Vans)
  obtain ⟨c7, s7, h7⟩ := u_known hts i_Van (hts _ mk_Van)
  obtain ⟨c8, s8, h8⟩ := u_known hts i_Mod (hts _ mk_Mod)
  obtain ⟨cI, kI, oI, aI, bI, eI⟩ := Cond.arrayClass_spec (hts _ ja_int)
  obtain ⟨cZ, kZ, oZ, aZ, bZ, eZ⟩ := Cond.arrayClass_spec (hts _ ja_bool)
  obtain ⟨oP, cP, kP, aP, -, bP, eP, fP⟩ := Cond.arrayOver_spec (hts _ jv_plan)
  obtain ⟨oJ, cJ, kJ, -, -, bJ, eJ, fJ⟩ := arrayOverA_spec (hts _ jv_arr)
  refine ⟨((fun k => if k = 0 then c0 else if k = 1 then c1 else if k = 2 then c2 else if k = 3 then c3 else if k = 4 then c4 else if k = 5 then c5 else if k = 6 then c6 else if k = 7 then c7 else c8, fun k => if k = 0 then s0 else if k = 1 then s1 else if k = 2 then s2 else if k = 3 then s3 else if k = 4 then s4 else if k = 5 then s5 else if k = 6 then s6 else if k = 7 then s7 else s8), (cI, cZ, cP, cJ), s.heap.size, b), rfl, rfl, fun k q hq => ?_, fun k q hq => ?_⟩
  · match k, hq with
    | 0, hq => cases hq; exact h0
    | 1, hq => cases hq; exact h1
    | 2, hq => cases hq; exact h2
    | 3, hq => cases hq; exact h3
    | 4, hq => cases hq; exact h4
    | 5, hq => cases hq; exact h5
    | 6, hq => cases hq; exact h6
    | 7, hq => cases hq; exact h7
    | 8, hq => cases hq; exact h8
    | k + 9, hq => simp [classes] at hq
  · match k, hq with
    | 0, hq => cases hq; exact ⟨fun n z => ⟨fun k h => (by cases h), kI, bI, oI, eI⟩, aI⟩
    | 1, hq => cases hq; exact ⟨fun n z => ⟨fun k h => (by cases h), kZ, bZ, oZ, eZ⟩, aZ⟩
    | 2, hq => cases hq; exact ⟨fun n z => ⟨fun k h => (by cases h), kP, bP, oP, eP⟩, kP, oP, bP, eP, aP, fP⟩
    | 3, hq => cases hq; exact ⟨fun n z => ⟨fun k h => (by cases h), kJ, bJ, oJ, eJ⟩, fJ⟩
    | k + 4, hq => simp [tysX] at hq
section LAW
variable {nm : String} {L : Nat} {xs : Nat → Int32} {kz : Nat × Nat} {pc : Nat} {ls st : List av} {w : hpd} {D : Dn} {n a b : Nat}
/-- the script's ints -/
theorem s_ld {i : Int} (hd : decode code pc = .ok (.iaload, 1)) (h0 : 0 ≤ i) (h1 : i < L) (hL : L ≤ 2560) (kk : Run (M_Law nm) (rxL L xs) kz (pc + 1) ls (vI (xs i.toNat).toInt :: st) w) : Run (M_Law nm) (rxL L xs) kz pc ls (vI i :: vR (-1) :: st) w := by
  intro X p l e s m args below meth c H locs A hC hE hS hW hL2
  have hE2 := id hE
  obtain ⟨e1, e2, e3, e4⟩ := hE
  have kk' := kk X p l e s m args below meth c H locs A hC hE2 hS hW hL2
  rw [List.map_cons] at kk'
  have ev : cv X (vI (xs i.toNat).toInt) = .int (xs (Int32.ofInt i).toNatClampNeg) := by
    rw [tN h0 (by omega)]
    show Value.int (Int32.ofInt (xs i.toNat).toInt) = _
    rw [Int32.ofInt_toInt]
  rw [ev] at kk'
  exact va_sld (b := X.2.2.2) hC.1 hC.2.1 e2 e3 (by rw [e1]; omega) hS (i_in h0 h1 (by omega)) hd kk'
theorem s_len (hd : decode code pc = .ok (.arraylength, 1)) (kk : Run (M_Law nm) (rxL L xs) kz (pc + 1) ls (vI L :: st) w) : Run (M_Law nm) (rxL L xs) kz pc ls (vR (-1) :: st) w := by
  intro X p l e s m args below meth c H locs A hC hE hS hW hL2
  have hE2 := id hE
  obtain ⟨e1, e2, e3, e4⟩ := hE
  exact va_slen (b := X.2.2.2) hC.1 hC.2.1 e2 e3 (by rw [e1]; omega) hS hd (kk X p l e s m args below meth c H locs A hC hE2 hS hW hL2)
theorem s_same {x : Int} {off : Int} (tgt : Nat) (hd : decode code pc = .ok (.if_icmp .eq off, 3)) (ht : (pc : Int) + off = (tgt : Int)) (kk : Run (M_Law nm) (rxL L xs) kz tgt ls st w) : Run (M_Law nm) (rxL L xs) kz pc ls (vI x :: vI x :: st) w := by
  intro X p l e s m args below meth c H locs A hC hE hS hW hL2
  exact lv_icmp_eq hC.1 hC.2.1 hd ht (fun _ => kk X p l e s m args below meth c H locs A hC hE hS hW hL2) (fun h => absurd rfl h)
theorem s_end (hd : decode code pc = .ok (.ireturn, 1)) (h1 : kz.1 ≤ 600000) (h2 : kz.2 ≤ 7302250) : Run (M_Law nm) (rxL L xs) kz pc ls [vI 1] w := by
  intro X p l e s m args below meth c H locs A hC hE hS hW hL2
  obtain ⟨e1, e2, e3, rfl⟩ := hE
  refine va_forget (fun q hq => by rw [← e1]; exact hS.2.2 q hq) ?_
  refine W.widen (k := 600000) (n := 7302250) h1 h2 ?_
  exact lw_ret hC.1 hC.2.1 hC.2.2.1 hC.2.2.2.2.2.2.1 hd
theorem s_new {idx ci N : Nat} (a' b' : Nat) (hd : decode code pc = .ok (.new idx, 3)) (hN : NWk "VanRoundsLaw" idx ci N) (hK : KD n = ci) (hn : a = n) (ha : a + 1 = a') (hb : b + N = b') (hz : a' ≤ room_1.cells) (hs : b' ≤ room_1.slots)
    (kk : Run (M_Law nm) (rxL L xs) (a', b') (pc + 3) ls (vR n :: st) (pg (set9 D n (fun _ => true)) (n + 1))) : Run (M_Law nm) (rxL L xs) (a, b) pc ls st (pg D n) := by
  subst ha hb
  intro X p l e s m args below meth c H locs A hC hE hS hW hL
  obtain ⟨C, T, ty, c1, c2, c3, c4, c5, c6, c7⟩ := hN
  have hts := hC.2.2.2.2.2.1
  have hE0 : X.2.2.1 = s.heap.size := hE.1
  have hA : ∀ q, s.heap.size ≤ q → X.2.2.1 ≤ q := fun q h => by omega
  refine va_new (ci := ci) (fs := (List.range N).map (fun i => if isI ci i then .int (Int32.ofInt 0) else .null)) hC.1 hC.2.1 hts c2 ty c3 hC.2.2.2.2.1 (hts _ c4) (hts _ c5) (hts _ c6) hC.2.2.2.2.2.2.2.1 hW (pw_D X D n) hS hA c1 (fun j hj => ?_) hz hs hd (fun q H1 hP1 hD1 hS1 => ?_)
  · rw [c7 j hj]
    unfold vp_V
    rw [List.getD_eq_getElem?_getD, List.getElem?_map, List.getElem?_range hj]
    rfl
  · intro Tt hT Xs
    have hsz := Xs.heapSize
    rw [hT] at hsz
    have hq := fresh_at hP1 hD1 (by omega)
    subst hq
    have hP2 : pg (set9 D n (fun _ => true)) (n + 1) X H1 := by
      have e : pent X (set9 D n (fun _ => true)) n = .inr (ci, (List.range N).map (fun i => if isI ci i then .int (Int32.ofInt 0) else .null)) := by
        rw [pobj hK c1, set9_eq]
        rfl
      rw [← e, pw_push (fun k hk => set9_ne (by omega))] at hP1
      exact hP1
    have kk' := kk X p l e s m args below meth c H1 locs A hC hE hS1 hP2 hL Tt hT Xs
    rw [List.map_cons, cvR] at kk'
    exact kk'
theorem s_cn {My : mi} {lev' mc' ms' idx e9 : Nat} (a' b' : Nat) (hd : decode code pc = .ok (.invokespecial idx, 3)) (hlk : Cond.methodLink "VanRoundsLaw" idx My.1 ∈ lw_tbl) (hV : IC My) (hN : CNc My lev' mc' ms' n e9) (hD : ∀ k, n ≤ k → D k = fun _ => false) (hn : a = n + 1) (hR : lev' + 1 ≤ room_1.frames ∧ 8 + (My.2.2.1 + 11) + 64 * lev' ≤ room_1.locals) (ha : a + mc' = a') (hb : b + ms' = b') (hz : a' ≤ room_1.cells) (hs : b' ≤ room_1.slots) (hro : (st.map catv).sum ≤ 8)
    (kk : Run (M_Law nm) (rxL L xs) (a', b') (pc + 3) ls st (pg D e9)) : Run (M_Law nm) (rxL L xs) (a, b) pc ls (vR n :: st) (pg (set9 D n (fun _ => true)) (n + 1)) := by
  subst ha hb
  intro X p l e s m args below meth c H locs A hC hE hS hW hL T hT Xs
  have hsz := Xs.heapSize
  have hup := pg_up (by omega) hW
  have hE0 : X.2.2.1 = s.heap.size := hE.1
  rw [hT] at hsz
  have hH : H.size = X.2.2.1 + (n + 1) := by omega
  obtain ⟨hFY, him, hin, hcd, hnm, hret⟩ := hV
  have hts := hC.2.2.2.2.2.1
  have hpre : PreS s H (va_Pc ([vR (n : Int)].map (cv X)) (fun U => pz (set9 D n (fun _ => true)) (n + 1) X U.heap ∧ va_K X.1 classes (tysX X) U)) (.ref (X.2.2.1 + n) :: []) := ⟨ct_blind, fun U hU hWm => ⟨by rw [List.map_cons, cvR]; rfl, ⟨by rw [hU]; exact hH, by rw [hU]; exact hW⟩, va_K.moved hWm.alike hC.2.2.2.2.2.2.2.1⟩⟩
  have hmet := hN D hD l X
  have cb : CallB room_1 s args "VanRoundsLaw" idx My.1 My.2.1 My.2.2.1 none (wsM My) (rmv lev' mc' ms') mc' ms' 0 := ⟨rfl, rfl, hR.1, hR.2, ct_words hts hcd, by rw [← hret]; exact List.mem_cons_self, by rw [← hret]; exact hts _ hcd, hts _ hin, hFY.2.1, fy_len hFY, hts _ hlk⟩
  rw [List.map_cons, cvR]
  have hr := va_runI (l := l) (e := e) (below := below) (meth := meth) (H := H) (locs := locs) (cells := a) (slots := b) (As := []) (b := X.2.2.1 + n) (rest := st.map (cv X)) (g := F0 m pc A (.ref (X.2.2.1 + n) :: st.map (cv X))) (nL := 4) ⟨hC.1, hC.2.1, hC.2.2.2.1, hC.2.2.2.2.1, hts⟩ hmet ⟨cb, hnm, hts _ him⟩ hpre rfl rfl hL.1 rfl (lv_room (by rw [map_sum]; exact hro)) hd ⟨hz, hs⟩
  exact run_behind (Rx := rxL L xs) (kz := (a, b)) hC hE hS hL hr (fun v w' h => by obtain ⟨rfl, rfl⟩ := h; exact kk) T hT Xs
end LAW
theorem m31 (x : Int32) : ∃ z : Int, x &&& Int32.ofInt 31 = Int32.ofInt z ∧ 0 ≤ z ∧ z ≤ 31 := by
  have h1 : (x &&& Int32.ofInt 31).toBitVec.toNat ≤ 31 := by
    rw [Int32.toBitVec_and, BitVec.toNat_and]
    exact Nat.and_le_right
  refine ⟨((x &&& Int32.ofInt 31).toBitVec.toNat : Int), ?_, by omega, by omega⟩
  rw [← Int32.toInt_inj, Int32.toInt_ofInt_of_le (by omega) (by omega)]
  show (x &&& Int32.ofInt 31).toBitVec.toInt = _
  rw [BitVec.toInt_eq_toNat_of_lt (by omega)]
