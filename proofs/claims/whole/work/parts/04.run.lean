-- RUN: method bodies over numbers: cells by their places, whole numbers for ints. What is proved of Run and Ct is proved of the machine.
abbrev av : Type := Int ⊕ Int ⊕ Int ⊕ Unit
def vI (x : Int) : av := .inl x
def vL (x : Int) : av := .inr (.inl x)
def vR (c : Int) : av := .inr (.inr (.inl c))
def vU : av := .inr (.inr (.inr ()))
theorem vI_ne {x : Int} : vI x ≠ vU := by intro h; cases h
theorem vL_ne {x : Int} : vL x ≠ vU := by intro h; cases h
theorem vR_ne {x : Int} : vR x ≠ vU := by intro h; cases h
/-- the classes' numbers, the array classes (int[], boolean[], Plan[], int[][]), the world's first address, the script's -/
abbrev cx : Type := va_G × (ClassId × ClassId × ClassId × ClassId) × Nat × Nat
abbrev hpd : Type := cx → Heap → Prop
def cv (X : cx) (v : av) : Value := match v with
  | .inl x => .int (Int32.ofInt x)
  | .inr (.inl x) => .long (Int64.ofInt x)
  | .inr (.inr (.inl c)) => .ref (if c < 0 then X.2.2.2 else X.2.2.1 + c.toNat)
  | .inr (.inr (.inr _)) => .int 0
def catv (v : av) : Nat := match v with
  | .inr (.inl _) => 2
  | _ => 1
theorem cv_cat (X : cx) (v : av) : (cv X v).category = catv v := by
  rcases v with x | x | x | x <;> rfl
def tysX (X : cx) : List (ClassId × FieldType) := [(X.2.1.1, .int), (X.2.1.2.1, .boolean), (X.2.1.2.2.1, .object "VanRounds$Plan"), (X.2.1.2.2.2, .array .int)]
/-- the locals -/
def lrel (X : cx) (n : Nat) (A : Array Slot) (ls : List av) : Prop := A.size = n ∧ lv_wf A ∧ ∀ (i : Nat) (v : av), ls[i]? = some v → v ≠ vU → A[i]? = some (.val (cv X v))
def noL (ls : List av) : Bool := ls.all (fun v => match v with | .inr (.inl _) => false | _ => true)
def lv1 (X : cx) (i : Nat) (v : av) : Option (Nat × Value) := match v with
  | .inr (.inr (.inr _)) => none
  | _ => some (i, cv X v)
def lvl (X : cx) (ls : List av) : List (Nat × Value) := (List.range ls.length).filterMap (fun i => (ls[i]?).bind (lv1 X i))
theorem lvl_mem {X : cx} {ls : List av} {i : Nat} {v : av} (h : ls[i]? = some v) (hv : v ≠ vU) : (i, cv X v) ∈ lvl X ls := by
  refine List.mem_filterMap.mpr ⟨i, List.mem_range.mpr (List.getElem?_eq_some_iff.mp h).1, ?_⟩
  rw [h]
  rcases v with x | x | x | x
  · rfl
  · rfl
  · rfl
  · exact absurd rfl hv
theorem lvl_of {X : cx} {ls : List av} {q : Nat × Value} (h : q ∈ lvl X ls) : ∃ v, ls[q.1]? = some v ∧ v ≠ vU ∧ q.2 = cv X v := by
  obtain ⟨i, -, h⟩ := List.mem_filterMap.mp h
  obtain ⟨v, h1, h2⟩ := Option.bind_eq_some_iff.mp h
  rcases v with x | x | x | x
  · cases h2
    exact ⟨_, h1, vI_ne (x := x), rfl⟩
  · cases h2
    exact ⟨_, h1, vL_ne (x := x), rfl⟩
  · cases h2
    exact ⟨_, h1, vR_ne (x := x), rfl⟩
  · cases h2
theorem lrel_has {X : cx} {n : Nat} {A : Array Slot} {ls : List av} (h : lrel X n A ls) : lv_has A n (lvl X ls) := by
  refine ⟨h.1, h.2.1, fun q hq => ?_⟩
  obtain ⟨v, h1, h2, h3⟩ := lvl_of hq
  rw [h3]
  exact h.2.2 _ _ h1 h2
theorem noL_cat {X : cx} {ls : List av} (h : noL ls = true) {q : Nat × Value} (hq : q ∈ lvl X ls) : q.2.category = 1 := by
  obtain ⟨v, h1, h2, h3⟩ := lvl_of hq
  have h4 := List.all_eq_true.mp h v (List.mem_of_getElem? h1)
  rw [h3, cv_cat]
  rcases v with x | x | x | x
  · rfl
  · cases h4
  · rfl
  · rfl
theorem lrel_store {X : cx} {n : Nat} {A A' : Array Slot} {ls : List av} {i : Nat} {v : av} (hL : lrel X n A ls) (hno : noL ls = true) {l : List (Nat × Value)} (hl : l = (i, cv X v) :: (lvl X ls).filter (fun q => !(q.1 == i) && !(q.1 + 1 == i && q.2.category == 2))) (h : lv_has A' n l) : lrel X n A' (ls.set i v) := by
  subst hl
  refine ⟨h.1, h.2.1, fun j u hj hu => ?_⟩
  by_cases e : j = i
  · subst e
    have hlt : j < ls.length := by
      have := (List.getElem?_eq_some_iff.mp hj).1
      simpa using this
    rw [List.getElem?_set_self hlt] at hj
    cases hj
    exact h.2.2 (j, cv X v) List.mem_cons_self
  · rw [List.getElem?_set_ne (fun q => e q.symm)] at hj
    have hm := lvl_mem (X := X) hj hu
    refine h.2.2 (j, cv X u) (List.mem_cons_of_mem _ (List.mem_filter.mpr ⟨hm, ?_⟩))
    have hc := noL_cat hno hm
    simp [e, hc]
/-- what stays so through a method's body -/
def Cxt (M : mi) (X : cx) (p : Program) (s : State) (m : MethodId) (args : Array Value) (meth : Method) (c : Code) : Prop :=
  p.tables.exec = Jvm.exec ∧ c.code = M.2.1 ∧ meth.sig.returnType = M.2.2.2 ∧ c.maxLocals = M.2.2.1 ∧ s.vm.findClass M.1.cls = some m.cls ∧ (∀ w ∈ lw_tbl, w.before args s = true) ∧ meth.locks = false ∧ va_K X.1 classes (tysX X) s ∧ meth.name = M.1.name
/-- the room, what more is known, the end that is wanted -/
abbrev rx : Type := Room × (cx → State → Array Value → Prop) × (cx → List Frame → Array Value → State → State → Prop)
def Run (M : mi) (Rx : rx) (kz : Nat × Nat) (pc : Nat) (ls st : List av) (w : hpd) : Prop :=
  ∀ (X : cx) (p : Program) (l : Launch) (e : Env) (s : State) (m : MethodId) (args : Array Value) (below : List Frame) (meth : Method) (c : Code) (H : Heap) (locs : List Loc) (A : Array Slot),
    Cxt M X p s m args meth c → Rx.2.1 X s args → va_S (fun q => X.2.2.1 ≤ q) s.heap H locs → w X H → lrel X M.2.2.1 A ls →
    W p l e Rx.1 s m args below meth c H locs kz.1 kz.2 (Rx.2.2 X below args s) (F0 m pc A (st.map (cv X)))
def rmv (lev mc ms : Nat) : Room := { frames := lev, cells := mc, slots := ms, locals := 64 * lev }
def QQ (X : cx) (Q : Option av → hpd → Prop) : Array Value → State → Outcome → State → Prop := fun _ st oc t =>
  (∃ (v : Option av) (w' : hpd), oc = .returned (v.map (cv X)) ∧ Q v w' ∧ w' X t.heap ∧ va_K X.1 classes (tysX X) t) ∧ va_F (fun q => X.2.2.1 ≤ q) st t
def rxM (lev mc ms : Nat) (Q : Option av → hpd → Prop) : rx := (rmv lev mc ms, fun _ _ _ => True, fun X below args s => MQ below (QQ X Q) args s mc ms (fun q => X.2.2.1 ≤ q))
def wsM (M : mi) : List Cond := Cond.code M.1 M.2.1 M.2.2.1 M.2.2.2 :: lw_tbl
/-- a method's contract: from the world w, called with As, it ends with Q of its answer and the world behind it -/
def Ct (M : mi) (lev mc ms : Nat) (As : List av) (w : hpd) (Q : Option av → hpd → Prop) : Prop :=
  ∀ (l : Launch) (X : cx), Met l M.1 (wsM M) (rmv lev mc ms) (va_Pc (As.map (cv X)) (fun U => w X U.heap ∧ va_K X.1 classes (tysX X) U)) (QQ X Q) mc ms (fun q => X.2.2.1 ≤ q)
def eLs (As : List av) : List av := As.flatMap (fun v => match v with | .inr (.inl x) => [vL x, vU] | v => [v])
theorem eLs_rel {X : cx} : ∀ (As : List av) (i0 : Nat) (i : Nat) (v : av), (eLs As)[i]? = some v → v ≠ vU → (i0 + i, cv X v) ∈ lv_args i0 (As.map (cv X)) := by
  intro As
  induction As with
  | nil => intro i0 i v h; simp [eLs] at h
  | cons a As ih =>
    intro i0 i v h hv
    have hone : ∀ (hc : catv a = 1), eLs (a :: As) = a :: eLs As → (i0 + i, cv X v) ∈ lv_args i0 ((a :: As).map (cv X)) := by
      intro hc he
      rw [he] at h
      have hn : ¬ (cv X a).category = 2 := by rw [cv_cat, hc]; decide
      show (i0 + i, cv X v) ∈ (i0, cv X a) :: lv_args (if (cv X a).category = 2 then i0 + 2 else i0 + 1) (As.map (cv X))
      rw [if_neg hn]
      cases i with
      | zero =>
        simp at h
        subst h
        exact List.mem_cons_self
      | succ i =>
        simp at h
        refine List.mem_cons_of_mem _ ?_
        have := ih (i0 + 1) i v h hv
        rwa [show i0 + 1 + i = i0 + (i + 1) by omega] at this
    rcases a with x | x | x | x
    · exact hone rfl rfl
    · have he : eLs (.inr (.inl x) :: As) = vL x :: vU :: eLs As := rfl
      rw [he] at h
      have hn : (cv X (.inr (.inl x))).category = 2 := by rw [cv_cat]; rfl
      show (i0 + i, cv X v) ∈ (i0, cv X (.inr (.inl x))) :: lv_args (if (cv X (.inr (.inl x))).category = 2 then i0 + 2 else i0 + 1) (As.map (cv X))
      rw [if_pos hn]
      match i, h with
      | 0, h =>
        simp at h
        subst h
        exact List.mem_cons_self
      | 1, h =>
        simp at h
        exact absurd h.symm hv
      | i + 2, h =>
        simp at h
        refine List.mem_cons_of_mem _ ?_
        have := ih (i0 + 2) i v h hv
        rwa [show i0 + 2 + i = i0 + (i + 2) by omega] at this
    · exact hone rfl rfl
    · exact hone rfl rfl
theorem eLs_len {X : cx} : ∀ As : List av, (lg_sl (As.map (cv X))).length = (eLs As).length := by
  intro As
  induction As with
  | nil => rfl
  | cons a As ih =>
    rw [List.map_cons]
    show (lg_sl (cv X a :: As.map (cv X))).length = _
    rw [show lg_sl (cv X a :: As.map (cv X)) = (if (cv X a).category = 2 then [Slot.val (cv X a), .second] else [Slot.val (cv X a)]) ++ lg_sl (As.map (cv X)) from rfl, List.length_append, ih, cv_cat]
    rcases a with x | x | x | x
    · show 1 + _ = (_ :: eLs As).length
      simp; omega
    · show 2 + _ = (_ :: _ :: eLs As).length
      simp; omega
    · show 1 + _ = (_ :: eLs As).length
      simp; omega
    · show 1 + _ = (_ :: eLs As).length
      simp; omega
/-- a contract out of a run of the body from its entry -/
theorem ct_of {M : mi} {lev mc ms : Nat} {As : List av} {w : hpd} {Q : Option av → hpd → Prop} (ls : List av) (hy : plainName M.1.cls = true) (hls : eLs As ++ List.replicate (M.2.2.1 - (eLs As).length) vU = ls) (hn : (eLs As).length ≤ M.2.2.1) (h : Run M (rxM lev mc ms Q) (0, 0) 0 ls [] w) : Ct M lev mc ms As w Q := by
  intro l X
  refine Met.ofW (cc := M.2.1) (maxL := M.2.2.1) (ret := M.2.2.2) hy rfl ?_
  intro p e s m args below meth c s₁ B hml hv
  obtain ⟨rfl, hw, hK⟩ := hv
  have hts0 := atoms_spec (ws := wsM M) B.pre
  rw [lg_entry_eq]
  have hl := lv_entry (As.map (cv X)) (n := M.2.2.1) (by rw [eLs_len]; exact hn)
  refine h X p l e s m _ below meth c s.heap [] _ ⟨B.exec, B.bytes, B.returns, hml, findClass_of_methodNamed B.named, fun w hw => hts0 w (List.mem_cons_of_mem _ hw), B.notSynchronized, hK, (name_of_methodNamed B.named B.method).1⟩ trivial va_S.rf hw ⟨hl.1, hl.2.1, fun i v hi hv => ?_⟩
  rw [← hls] at hi
  by_cases hlt : i < (eLs As).length
  · rw [List.getElem?_append_left hlt] at hi
    have := hl.2.2 _ (eLs_rel (X := X) As 0 i v hi hv)
    simpa using this
  · rw [List.getElem?_append_right (by omega)] at hi
    have := List.mem_of_getElem? hi
    exact absurd (List.eq_of_mem_replicate this) hv
