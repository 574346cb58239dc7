-- CALLS over Run
def okw : Cond → Bool := fun w => goodWord w || (match w with
  | .fieldLinkNest .. => true
  | .methodLinkNest .. => true
  | .privateMethod _ => true
  | .arrayOver _ => true
  | _ => false)
theorem lw_ok : lw_tbl.all okw = true := by decide +kernel
theorem lw_warm {args a' : Array Value} {s U : State} (hW : s.WarmedH U.vm) {w : Cond} (hw : w ∈ lw_tbl) (h : w.before args s = true) : w.before a' U = true := by
  have h0 := List.all_eq_true.mp lw_ok w hw
  unfold okw at h0
  rw [Bool.or_eq_true] at h0
  rcases h0 with h0 | h0
  · exact word_at hW (good_of_word h0) h
  · cases w with
    | fieldLinkNest a i b n d g => exact va_Nw.use rfl (va_Nw.warmF hW (va_Nw.of rfl h))
    | methodLinkNest a i x g => exact va_Nw.use rfl (va_Nw.warmM hW (va_Nw.of rfl h))
    | privateMethod x => exact va_tabs (u := s.setVm U.vm) rfl rfl (Cond.before_shiftedFace (State.Shifted.of_warmed hW) (.privateMethod x) rfl h)
    | arrayOver ty =>
      have h1 := h
      rw [← Cond.arrayOver_setVmC (vm' := U.vm) hW.alike] at h1
      exact h1
    | _ => cases h0
def FY (M : mi) (n : Nat) : Prop := plainName M.1.cls = true ∧ (M.1.cls ≠ "java/lang/invoke/MethodHandle" ∧ M.1.cls ≠ "java/lang/invoke/VarHandle") ∧ (parseMethodDescriptor M.1.desc).map (fun d => d.parameters.length) = some n
def VC (M : mi) (n : Nat) : Prop := FY M n ∧ Cond.instanceMethod M.1 ∈ lw_tbl ∧ Cond.selects M.1.cls M.1 M.1 ∈ lw_tbl ∧ Cond.initialized M.1.cls ∈ lw_tbl ∧ Cond.code M.1 M.2.1 M.2.2.1 M.2.2.2 ∈ lw_tbl
def SC (M : mi) (n : Nat) : Prop := FY M n ∧ Cond.static M.1 ∈ lw_tbl ∧ Cond.initialized M.1.cls ∈ lw_tbl ∧ Cond.code M.1 M.2.1 M.2.2.1 M.2.2.2 ∈ lw_tbl
def IC (M : mi) : Prop := FY M 0 ∧ Cond.instanceMethod M.1 ∈ lw_tbl ∧ Cond.initialized M.1.cls ∈ lw_tbl ∧ Cond.code M.1 M.2.1 M.2.2.1 M.2.2.2 ∈ lw_tbl ∧ M.1.name = "<init>" ∧ M.2.2.2 = none
theorem ct_words {My : mi} {s : State} {args : Array Value} (hts : ∀ w ∈ lw_tbl, w.before args s = true) (hcd : Cond.code My.1 My.2.1 My.2.2.1 My.2.2.2 ∈ lw_tbl) : ∀ w ∈ wsM My, ∀ (a' : Array Value) (U : State), s.WarmedH U.vm → w.before a' U = true := by
  intro w hw a' U hW
  rcases List.mem_cons.mp hw with rfl | h
  · exact lw_warm hW hcd (hts _ hcd)
  · exact lw_warm hW h (hts _ h)
theorem fy_len {My : mi} {n : Nat} (h : FY My n) : ∀ sig, parseMethodDescriptor My.1.desc = some sig → n = sig.parameters.length := by
  intro sig hs
  have h2 := h.2.2
  rw [hs] at h2
  exact (Option.some.inj h2).symm
theorem ct_blind {As : List Value} {w : hpd} {X : cx} : FrameBlind (va_Pc As (fun U => w X U.heap ∧ va_K X.1 classes (tysX X) U)) :=
  fun a U g mk q => ⟨q.1, q.2.1, va_K.moved (u := U) (U := U.calling g mk a) (Vm.Alike.refl U.vm) q.2.2⟩
section CAL
variable {M : mi} {Rx : rx} {kz : Nat × Nat} {pc : Nat} {ls st : List av} {σ : sto}
/-- behind a call -/
theorem run_behind {X : cx} {p : Program} {l : Launch} {e : Env} {s : State} {m : MethodId} {args : Array Value} {below : List Frame} {meth : Method} {c : Code} {H : Heap} {locs : List Loc} {A : Array Slot} {mc ms : Nat} {g0 : List Value} {a : Array Value} {Q : Option av → hpd → Prop}
    (hC : Cxt M X p s m args meth c) (hE : Rx.2.1 X s args) (hS : va_S (fun q => X.2.2.1 ≤ q) s.heap H locs) (hL : lrel X M.2.2.1 A ls)
    (hr : va_Run p l e Rx.1 s m args below meth c H locs kz.1 kz.2 mc ms (F0 m pc A g0) (st.map (cv X)) (QQ X Q a) (fun q => X.2.2.1 ≤ q))
    (kk : ∀ v w', Q v w' → Run M Rx (kz.1 + mc, kz.2 + ms) (pc + 3) ls (v.toList ++ st) w') : W p l e Rx.1 s m args below meth c H locs kz.1 kz.2 (Rx.2.2 X below args s) (F0 m pc A g0) := by
  intro T hT Xs
  obtain ⟨v, st₀, t, T', L, h0, X', hLl, e1, e2, ⟨⟨v', w', hv, hq, hw, hkk⟩, hz', hkp⟩, stp⟩ := hr T hT Xs
  cases hv
  rw [h0] at hz' hkp
  obtain ⟨t2, a1, b1⟩ := kk v' w' hq X p l e s m args below meth c T'.heap (locs ++ L) A hC hE ⟨Nat.le_trans hS.1 (by rw [e1]; exact hz'), fun q h1 h2 => by rw [e1, hkp q (Nat.lt_of_lt_of_le h1 hS.1) h2]; exact hS.2.1 q h1 h2, fun q hq => by
      rcases List.mem_append.mp hq with h | h
      · exact hS.2.2 q h
      · exact hLl q h⟩ (by rw [e1]; exact hw) hL T' rfl X'
  refine ⟨t2, stp t2 ?_, b1⟩
  have he : (v'.toList ++ st).map (cv X) = (v'.map (cv X)).toList ++ st.map (cv X) := by cases v' <;> simp
  rw [he] at a1
  exact a1
theorem map_sum {X : cx} (st : List av) : ((st.map (cv X)).map fun v => v.category).sum = (st.map catv).sum := by
  rw [List.map_map]
  congr 1
  apply List.map_congr_left
  intro v _
  exact cv_cat X v
theorem r_callV {My : mi} {lev idx n : Nat} (ci : Nat) {o : Int} {As stk : List av} {Q : Option av → hpd → Prop} (hd : decode M.2.1 pc = .ok (.invokevirtual idx, 3)) (hlk : Cond.methodLink M.1.cls idx My.1 ∈ lw_tbl) (hV : VC My n) (hCt : Ct My lev 0 0 (vR o :: As) (sg σ) Q) (hn : As.length = n) (hst : stk = As.reverse ++ vR o :: st) (hk : KD o = ci) (hcl : (classes[ci]?).map (·.1) = some My.1.cls) (hR : lev + 1 ≤ Rx.1.frames ∧ 8 + (My.2.2.1 + 11) + 64 * lev ≤ Rx.1.locals) (hz : kz.1 ≤ Rx.1.cells ∧ kz.2 ≤ Rx.1.slots) (hro : (st.map catv).sum ≤ 8)
    (kk : ∀ v w', Q v w' → Run M Rx kz (pc + 3) ls (v.toList ++ st) w') : Run M Rx kz pc ls stk (sg σ) := by
  intro X p l e s m args below meth c H locs A hC hE hS hW hL
  subst hst
  obtain ⟨hFY, him, hse, hin, hcd⟩ := hV
  have hts := hC.2.2.2.2.2.1
  obtain ⟨q, hq1, hq2⟩ := Option.map_eq_some_iff.mp hcl
  have hci : ci < 9 := (List.getElem?_eq_some_iff.mp hq1).1
  obtain ⟨b, rfl, hlt⟩ := KD_lt hk (by omega)
  have he : (wl X σ)[b]? = some (X.2.2.1 + b, .inr (ci, (List.range (nfc ci)).map (fun i => if isI ci i then .int (Int32.ofInt (σ b i)) else .ref (X.2.2.1 + (lay b i).toNat)))) := by rw [wl_at X σ hlt, ent_obj hk hci]
  have hrec := va_recv hC.2.2.2.2.2.2.2.1 hW hq1 he
  rw [hq2] at hrec
  have cb : CallB Rx.1 s args M.1.cls idx My.1 My.2.1 My.2.2.1 My.2.2.2 (wsM My) (rmv lev 0 0) 0 0 n := ⟨rfl, rfl, hR.1, hR.2, ct_words hts hcd, List.mem_cons_self, hts _ hcd, hts _ hin, hFY.2.1, fy_len hFY, hts _ hlk⟩
  have hr := va_runV (l := l) (e := e) (below := below) (meth := meth) (H := H) (locs := locs) (cells := kz.1) (slots := kz.2) (As := As.map (cv X)) (b := X.2.2.1 + b) (rest := st.map (cv X)) (g := F0 m pc A ((As.reverse ++ vR (b : Int) :: st).map (cv X))) (C := My.1.cls) (nL := M.2.2.1) ⟨hC.1, hC.2.1, hC.2.2.2.1, hC.2.2.2.2.1, hts⟩ (hCt l X) ⟨cb, hts _ him, hts _ hse⟩ ⟨ct_blind, hrec, fun U hU hWm => ⟨by rw [List.map_cons, cvR], by rw [hU]; exact hW, va_K.moved hWm.alike hC.2.2.2.2.2.2.2.1⟩⟩ rfl (by rw [List.length_map]; exact hn) hL.1 (by rw [List.map_append, List.map_cons, cvR, List.map_reverse]) (lv_room (by rw [map_sum]; exact hro)) hd hz
  exact run_behind hC hE hS hL hr kk
theorem r_callS {My : mi} {lev idx n : Nat} {w : hpd} {As stk : List av} {Q : Option av → hpd → Prop} (hd : decode M.2.1 pc = .ok (.invokestatic idx, 3)) (hlk : Cond.methodLink M.1.cls idx My.1 ∈ lw_tbl) (hV : SC My n) (hCt : Ct My lev 0 0 As w Q) (hn : As.length = n) (hst : stk = As.reverse ++ st) (hR : lev + 1 ≤ Rx.1.frames ∧ 8 + (My.2.2.1 + 11) + 64 * lev ≤ Rx.1.locals) (hz : kz.1 ≤ Rx.1.cells ∧ kz.2 ≤ Rx.1.slots) (hro : (st.map catv).sum ≤ 8)
    (kk : ∀ v w', Q v w' → Run M Rx kz (pc + 3) ls (v.toList ++ st) w') : Run M Rx kz pc ls stk w := by
  intro X p l e s m args below meth c H locs A hC hE hS hW hL
  subst hst
  obtain ⟨hFY, hsta, hin, hcd⟩ := hV
  have hts := hC.2.2.2.2.2.1
  have cb : CallB Rx.1 s args M.1.cls idx My.1 My.2.1 My.2.2.1 My.2.2.2 (wsM My) (rmv lev 0 0) 0 0 n := ⟨rfl, rfl, hR.1, hR.2, ct_words hts hcd, List.mem_cons_self, hts _ hcd, hts _ hin, hFY.2.1, fy_len hFY, hts _ hlk⟩
  have hr := va_runS (l := l) (e := e) (below := below) (meth := meth) (H := H) (locs := locs) (cells := kz.1) (slots := kz.2) (As := As.map (cv X)) (rest := st.map (cv X)) (g := F0 m pc A ((As.reverse ++ st).map (cv X))) (nL := M.2.2.1) ⟨hC.1, hC.2.1, hC.2.2.2.1, hC.2.2.2.2.1, hts⟩ (hCt l X) ⟨cb, hts _ hsta⟩ ⟨ct_blind, fun U hU hWm => ⟨rfl, by rw [hU]; exact hW, va_K.moved hWm.alike hC.2.2.2.2.2.2.2.1⟩⟩ rfl (by rw [List.length_map]; exact hn) hL.1 (by rw [List.map_append, List.map_reverse]) (lv_room (by rw [map_sum]; exact hro)) hd hz
  exact run_behind hC hE hS hL hr kk
end CAL

/-! static methods of the finished world: an int's answer, or none -/
def rxI (lev : Nat) (P : Int → sto → Prop) : rx := rxM lev 0 0 (fun v w' => ∃ (r : Int) (σ' : sto), v = some (vI r) ∧ w' = sg σ' ∧ P r σ')
def rxV (lev : Nat) (P : sto → Prop) : rx := rxM lev 0 0 (fun v w' => ∃ σ' : sto, v = none ∧ w' = sg σ' ∧ P σ')
def CI (M : mi) (lev : Nat) (As : List av) (σ : sto) (P : Int → sto → Prop) : Prop := Ct M lev 0 0 As (sg σ) (fun v w' => ∃ (r : Int) (σ' : sto), v = some (vI r) ∧ w' = sg σ' ∧ P r σ')
def CV (M : mi) (lev : Nat) (As : List av) (σ : sto) (P : sto → Prop) : Prop := Ct M lev 0 0 As (sg σ) (fun v w' => ∃ σ' : sto, v = none ∧ w' = sg σ' ∧ P σ')
theorem ci_of {M : mi} {lev : Nat} {As : List av} {σ : sto} {P : Int → sto → Prop} (ls : List av) (hy : plainName M.1.cls = true) (hls : eLs As ++ List.replicate (M.2.2.1 - (eLs As).length) vU = ls) (hn : (eLs As).length ≤ M.2.2.1) (h : Run M (rxI lev P) (0, 0) 0 ls [] (sg σ)) : CI M lev As σ P := ct_of ls hy hls hn h
theorem cv_of {M : mi} {lev : Nat} {As : List av} {σ : sto} {P : sto → Prop} (ls : List av) (hy : plainName M.1.cls = true) (hls : eLs As ++ List.replicate (M.2.2.1 - (eLs As).length) vU = ls) (hn : (eLs As).length ≤ M.2.2.1) (h : Run M (rxV lev P) (0, 0) 0 ls [] (sg σ)) : CV M lev As σ P := ct_of ls hy hls hn h
section CAL2
variable {M : mi} {Rx : rx} {kz : Nat × Nat} {pc : Nat} {ls st : List av} {σ : sto}
theorem q_iret {lev : Nat} {x : Int} {P : Int → sto → Prop} (hd : decode M.2.1 pc = .ok (.ireturn, 1)) (hr : M.2.2.2 = some .int) (hQ : P x σ) : Run M (rxI lev P) (0, 0) pc ls [vI x] (sg σ) := r_iret hd hr ⟨x, σ, rfl, rfl, hQ⟩
theorem q_zret {lev : Nat} {x : Int} {P : Int → sto → Prop} (hd : decode M.2.1 pc = .ok (.ireturn, 1)) (hr : M.2.2.2 = some .boolean) (hx : x = 0 ∨ x = 1) (hQ : P x σ) : Run M (rxI lev P) (0, 0) pc ls [vI x] (sg σ) := r_zret hd hr hx ⟨x, σ, rfl, rfl, hQ⟩
theorem q_vret {lev : Nat} {P : sto → Prop} (hd : decode M.2.1 pc = .ok (.return_, 1)) (hr : M.2.2.2 = none) (hQ : P σ) : Run M (rxV lev P) (0, 0) pc ls [] (sg σ) := r_vret hd hr ⟨σ, rfl, rfl, hQ⟩
theorem r_cVI {My : mi} {lev idx n : Nat} (ci : Nat) {o : Int} {As stk : List av} {P : Int → sto → Prop} (hd : decode M.2.1 pc = .ok (.invokevirtual idx, 3)) (hlk : Cond.methodLink M.1.cls idx My.1 ∈ lw_tbl) (hV : VC My n) (hCt : CI My lev (vR o :: As) σ P) (hn : As.length = n) (hst : stk = As.reverse ++ vR o :: st) (hk : KD o = ci) (hcl : (classes[ci]?).map (·.1) = some My.1.cls) (hR : lev + 1 ≤ Rx.1.frames ∧ 8 + (My.2.2.1 + 11) + 64 * lev ≤ Rx.1.locals) (hz : kz.1 ≤ Rx.1.cells ∧ kz.2 ≤ Rx.1.slots) (hro : (st.map catv).sum ≤ 8)
    (kk : ∀ (r : Int) (σ' : sto), P r σ' → Run M Rx kz (pc + 3) ls (vI r :: st) (sg σ')) : Run M Rx kz pc ls stk (sg σ) :=
  r_callV ci hd hlk hV hCt hn hst hk hcl hR hz hro (fun v w' h => by obtain ⟨r, σ', rfl, rfl, hP⟩ := h; exact kk r σ' hP)
theorem r_cVV {My : mi} {lev idx n : Nat} (ci : Nat) {o : Int} {As stk : List av} {P : sto → Prop} (hd : decode M.2.1 pc = .ok (.invokevirtual idx, 3)) (hlk : Cond.methodLink M.1.cls idx My.1 ∈ lw_tbl) (hV : VC My n) (hCt : CV My lev (vR o :: As) σ P) (hn : As.length = n) (hst : stk = As.reverse ++ vR o :: st) (hk : KD o = ci) (hcl : (classes[ci]?).map (·.1) = some My.1.cls) (hR : lev + 1 ≤ Rx.1.frames ∧ 8 + (My.2.2.1 + 11) + 64 * lev ≤ Rx.1.locals) (hz : kz.1 ≤ Rx.1.cells ∧ kz.2 ≤ Rx.1.slots) (hro : (st.map catv).sum ≤ 8)
    (kk : ∀ (σ' : sto), P σ' → Run M Rx kz (pc + 3) ls st (sg σ')) : Run M Rx kz pc ls stk (sg σ) :=
  r_callV ci hd hlk hV hCt hn hst hk hcl hR hz hro (fun v w' h => by obtain ⟨σ', rfl, rfl, hP⟩ := h; exact kk σ' hP)
theorem r_cSI {My : mi} {lev idx n : Nat} {As stk : List av} {P : Int → sto → Prop} (hd : decode M.2.1 pc = .ok (.invokestatic idx, 3)) (hlk : Cond.methodLink M.1.cls idx My.1 ∈ lw_tbl) (hV : SC My n) (hCt : CI My lev As σ P) (hn : As.length = n) (hst : stk = As.reverse ++ st) (hR : lev + 1 ≤ Rx.1.frames ∧ 8 + (My.2.2.1 + 11) + 64 * lev ≤ Rx.1.locals) (hz : kz.1 ≤ Rx.1.cells ∧ kz.2 ≤ Rx.1.slots) (hro : (st.map catv).sum ≤ 8)
    (kk : ∀ (r : Int) (σ' : sto), P r σ' → Run M Rx kz (pc + 3) ls (vI r :: st) (sg σ')) : Run M Rx kz pc ls stk (sg σ) :=
  r_callS hd hlk hV hCt hn hst hR hz hro (fun v w' h => by obtain ⟨r, σ', rfl, rfl, hP⟩ := h; exact kk r σ' hP)
end CAL2
