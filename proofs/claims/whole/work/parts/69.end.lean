-- THE LAW: its loop and its end (written by wip/whole/gen_law.py)
theorem lw_out {nm : String} {L : Nat} {xs : Nat → Int32} {ls : List av} {w : hpd} : Run (M_Law nm) (rxL L xs) (198, 8577) 1181 ls [] w := by
  refine r_iconst d_law_1181 ?_
  exact s_end d_law_1182 (Nat.le_of_ble_eq_true rfl) (Nat.le_of_ble_eq_true rfl)
theorem lw_loop {nm : String} {L : Nat} {xs : Nat → Int32} (hL : L ≤ 2560) : ∀ (n : Nat) (i B : Int) (σ : sto) (g : G), 0 ≤ i → i ≤ 2565 → (L : Int) - i < n → OI σ g B → B ≤ 1 + i → RI σ g → g.ok → Run (M_Law nm) (rxL L xs) (198, 8577) 18 (lls i) [] (sg σ) := by
  intro n
  induction n with
  | zero =>
    intro i B σ g h0 h2 h1 hI hB hR hk
    refine r_iload_n 3 d_law_18 rfl rfl ?_
    refine r_aload_n 0 d_law_19 rfl rfl ?_
    refine s_len d_law_20 ?_
    refine r_iconst d_law_21 ?_
    refine r_isub d_law_22 ?_
    refine r_icmp_gt 1181 d_law_23 rfl (by omega) (by omega) (fun h => lw_out) (fun h => absurd h (by omega))
  | succ n ih =>
    intro i B σ g h0 h2 h1 hI hB hR hk
    refine r_iload_n 3 d_law_18 rfl rfl ?_
    refine r_aload_n 0 d_law_19 rfl rfl ?_
    refine s_len d_law_20 ?_
    refine r_iconst d_law_21 ?_
    refine r_isub d_law_22 ?_
    refine r_icmp_gt 1181 d_law_23 rfl (by omega) (by omega) (fun h => lw_out) (fun h => ?_)
    have h5 : i + 5 ≤ L := by omega
    have hB' : B ≤ 3998 := by omega
    have K : Kt nm L xs i B := fun σ' g' k1 k2 k3 => by
      refine r_iinc 3 d_law_1175 rfl (Nat.le_of_ble_eq_true rfl) rfl ?_
      refine r_goto 18 d_law_1178 rfl ?_
      exact ih (i + 5) (B + 2) σ' g' (by omega) (by omega) (by omega) k1 (by omega) k2 k3
    refine r_aload_n 0 d_law_26 rfl rfl ?_
    refine r_iload_n 3 d_law_27 rfl rfl ?_
    refine s_ld d_law_28 h0 (by omega) hL ?_
    refine r_bipush d_law_29 (by decide) ?_
    obtain ⟨z, hz, z0, z1⟩ := m31 (xs i.toNat)
    refine r_iand d_law_31 (z := z) (by rw [Int32.ofInt_toInt]; exact hz) ?_
    rcases (show z = 0 ∨ z = 1 ∨ z = 2 ∨ z = 3 ∨ z = 4 ∨ z = 5 ∨ z = 6 ∨ z = 7 ∨ z = 8 ∨ z = 9 ∨ z = 10 ∨ z = 11 ∨ z = 12 ∨ z = 13 ∨ z = 14 ∨ z = 15 ∨ z = 16 ∨ z = 17 ∨ z = 18 ∨ z = 19 ∨ z = 20 ∨ z = 21 ∨ z = 22 ∨ z = 23 ∨ z = 24 ∨ z = 25 ∨ z = 26 ∨ z = 27 ∨ z = 28 ∨ z = 29 ∨ z = 30 ∨ z = 31 by omega) with rfl | rfl | rfl | rfl | rfl | rfl | rfl | rfl | rfl | rfl | rfl | rfl | rfl | rfl | rfl | rfl | rfl | rfl | rfl | rfl | rfl | rfl | rfl | rfl | rfl | rfl | rfl | rfl | rfl | rfl | rfl | rfl
    · exact r_tableIn (off := 140) 172 d_law_32 (by decide) (by decide) (by decide) rfl rfl (lc_street hL h0 h5 hI hB' hR hk K)
    · exact r_tableIn (off := 183) 215 d_law_32 (by decide) (by decide) (by decide) rfl rfl (lc_slow hL h0 h5 hI hB' hR hk K)
    · exact r_tableIn (off := 236) 268 d_law_32 (by decide) (by decide) (by decide) rfl rfl (lc_way hL h0 h5 hI hB' hR hk K)
    · exact r_tableIn (off := 279) 311 d_law_32 (by decide) (by decide) (by decide) rfl rfl (lc_stop hL h0 h5 hI hB' hR hk K)
    · exact r_tableIn (off := 332) 364 d_law_32 (by decide) (by decide) (by decide) rfl rfl (lc_span hL h0 h5 hI hB' hR hk K)
    · exact r_tableIn (off := 365) 397 d_law_32 (by decide) (by decide) (by decide) rfl rfl (lc_price hL h0 h5 hI hB' hR hk K)
    · exact r_tableIn (off := 398) 430 d_law_32 (by decide) (by decide) (by decide) rfl rfl (lc_van hL h0 h5 hI hB' hR hk K)
    · exact r_tableIn (off := 441) 473 d_law_32 (by decide) (by decide) (by decide) rfl rfl (lc_shift hL h0 h5 hI hB' hR hk K)
    · exact r_tableIn (off := 474) 506 d_law_32 (by decide) (by decide) (by decide) rfl rfl (lc_look hL h0 h5 hI hB' hR hk K)
    · exact r_tableIn (off := 507) 539 d_law_32 (by decide) (by decide) (by decide) rfl rfl (lc_round hL h0 h5 hI hB' hR hk K)
    · exact r_tableIn (off := 540) 572 d_law_32 (by decide) (by decide) (by decide) rfl rfl (lc_when hL h0 h5 hI hB' hR hk K)
    · exact r_tableIn (off := 583) 615 d_law_32 (by decide) (by decide) (by decide) rfl rfl (lc_cost hL h0 h5 hI hB' hR hk K)
    · exact r_tableIn (off := 606) 638 d_law_32 (by decide) (by decide) (by decide) rfl rfl (lc_why hL h0 h5 hI hB' hR hk K)
    · exact r_tableIn (off := 649) 681 d_law_32 (by decide) (by decide) (by decide) rfl rfl (lc_where hL h0 h5 hI hB' hR hk K)
    · exact r_tableIn (off := 662) 694 d_law_32 (by decide) (by decide) (by decide) rfl rfl (lc_put hL h0 h5 hI hB' hR hk K)
    · exact r_tableIn (off := 705) 737 d_law_32 (by decide) (by decide) (by decide) rfl rfl (lc_pair hL h0 h5 hI hB' hR hk K)
    · exact r_tableIn (off := 758) 790 d_law_32 (by decide) (by decide) (by decide) rfl rfl (lc_take hL h0 h5 hI hB' hR hk K)
    · exact r_tableIn (off := 781) 813 d_law_32 (by decide) (by decide) (by decide) rfl rfl (lc_move hL h0 h5 hI hB' hR hk K)
    · exact r_tableIn (off := 824) 856 d_law_32 (by decide) (by decide) (by decide) rfl rfl (lc_cross hL h0 h5 hI hB' hR hk K)
    · exact r_tableIn (off := 877) 909 d_law_32 (by decide) (by decide) (by decide) rfl rfl (lc_turn hL h0 h5 hI hB' hR hk K)
    · exact r_tableIn (off := 920) 952 d_law_32 (by decide) (by decide) (by decide) rfl rfl (lc_build hL h0 h5 hI hB' hR hk K)
    · exact r_tableIn (off := 933) 965 d_law_32 (by decide) (by decide) (by decide) rfl rfl (lc_better hL h0 h5 hI hB' hR hk K)
    · exact r_tableIn (off := 956) 988 d_law_32 (by decide) (by decide) (by decide) rfl rfl (lc_least hL h0 h5 hI hB' hR hk K)
    · exact r_tableIn (off := 969) 1001 d_law_32 (by decide) (by decide) (by decide) rfl rfl (lc_undo hL h0 h5 hI hB' hR hk K)
    · exact r_tableIn (off := 982) 1014 d_law_32 (by decide) (by decide) (by decide) rfl rfl (lc_clear hL h0 h5 hI hB' hR hk K)
    · exact r_tableIn (off := 995) 1027 d_law_32 (by decide) (by decide) (by decide) rfl rfl (lc_count hL h0 h5 hI hB' hR hk K)
    · exact r_tableIn (off := 1018) 1050 d_law_32 (by decide) (by decide) (by decide) rfl rfl (lc_lay hL h0 h5 hI hB' hR hk K)
    · exact r_tableIn (off := 1041) 1073 d_law_32 (by decide) (by decide) (by decide) rfl rfl (lc_tear hL h0 h5 hI hB' hR hk K)
    · exact r_tableIn (off := 1054) 1086 d_law_32 (by decide) (by decide) (by decide) rfl rfl (lc_row hL h0 h5 hI hB' hR hk K)
    · exact r_tableIn (off := 1077) 1109 d_law_32 (by decide) (by decide) (by decide) rfl rfl (lc_copy hL h0 h5 hI hB' hR hk K)
    · exact r_tableIn (off := 1120) 1152 d_law_32 (by decide) (by decide) (by decide) rfl rfl (lc_status hL h0 h5 hI hB' hR hk K)
    · exact r_tableOut 1175 d_law_32 (by decide) (Or.inr (by decide)) rfl (K σ g (hI.le (by omega)) hR hk)
theorem law_run {nm : String} {L : Nat} {xs : Nat → Int32} (hL : L ≤ 2560) : Run (M_Law nm) (rxL L xs) (0, 0) 0 [vR (-1), vU, vU, vU] [] (pg (fun _ _ => false) 0) := by
  refine s_new (n := 0) 1 12 d_law_0 nw_Law_7 rfl rfl rfl rfl (Nat.le_of_ble_eq_true rfl) (Nat.le_of_ble_eq_true rfl) ?_
  refine r_dup d_law_3 rfl ?_
  refine s_cn (n := 0) 169 6909 d_law_4 lk_Law_9 ic_Van_init cn_Van (fun _ _ => rfl) rfl ⟨Nat.le_of_ble_eq_true rfl, Nat.le_of_ble_eq_true rfl⟩ rfl rfl (Nat.le_of_ble_eq_true rfl) (Nat.le_of_ble_eq_true rfl) (Nat.le_of_ble_eq_true rfl) ?_
  refine r_astore_n 1 d_law_7 rfl (Nat.le_of_ble_eq_true rfl) rfl ?_
  refine s_new (n := 169) 170 6955 d_law_8 nw_Law_10 rfl rfl rfl rfl (Nat.le_of_ble_eq_true rfl) (Nat.le_of_ble_eq_true rfl) ?_
  refine r_dup d_law_11 rfl ?_
  refine s_cn (n := 169) 198 8577 d_law_12 lk_Law_12 ic_Mod_init cn_Mod (fun _ _ => rfl) rfl ⟨Nat.le_of_ble_eq_true rfl, Nat.le_of_ble_eq_true rfl⟩ rfl rfl (Nat.le_of_ble_eq_true rfl) (Nat.le_of_ble_eq_true rfl) (Nat.le_of_ble_eq_true rfl) ?_
  refine r_astore_n 2 d_law_15 rfl (Nat.le_of_ble_eq_true rfl) rfl ?_
  refine r_iconst d_law_16 ?_
  refine r_istore_n 3 d_law_17 rfl (Nat.le_of_ble_eq_true rfl) rfl ?_
  refine r_weak (fun X H h => pg_s0 h) ?_
  exact lw_loop hL 2561 0 1 s0 g0 (by decide) (by decide) (by omega) g0_oi (by decide) g0_ri g0_ok
/-- the walk of the law's body -/
theorem whole_start {p : Program} {e : Env} {s : State} {m : MethodId} {below : List Frame} {meth : Method} {c : Code} (l : Launch) (hflags : l.flags = flags0) {b L : Nat} {xs : Nat → Int32} (hL : L ≤ 2560) (C0 : lw_At p s m meth c b L xs) : W p l e room_1 s m #[Value.ref b] below meth c s.heap [] 0 0 (lw_Z below #[Value.ref b] s) (entryFrame m ([Value.ref b] : List Value).toArray 4) := by
  obtain ⟨hx, hb, hr, hml, hown, hts, hX, hbl, hlocks, hgv⟩ := id C0
  obtain ⟨X, x1, x2, hK⟩ := law_X b hts
  subst x2
  have hl := lv_entry ([.ref X.2.2.2]) (n := 4) (Nat.le_of_ble_eq_true rfl)
  rw [lg_entry_eq]
  generalize (lg_sl ([.ref X.2.2.2]) ++ List.replicate (4 - (lg_sl ([.ref X.2.2.2])).length) Slot.unset).toArray = A at hl ⊢
  have hl : lv_has A 4 [(0, .ref X.2.2.2)] := hl
  refine law_run (nm := meth.name) (xs := xs) hL X p l e s m _ below meth c s.heap [] A ⟨hx, hb, hr, hml, hown, hts, hlocks, hK, rfl⟩ ⟨x1, hX, hbl, rfl⟩ va_S.rf (fun k q h => ?_) ⟨hl.1, hl.2.1, fun i v hi hv => ?_⟩
  · exact absurd (pw_of h).1 (Nat.not_lt_zero k)
  · match i, hi with
    | 0, hi =>
      cases hi
      exact hl.2.2 _ List.mem_cons_self
    | 1, hi => cases hi; exact absurd rfl hv
    | 2, hi => cases hi; exact absurd rfl hv
    | 3, hi => cases hi; exact absurd rfl hv
    | i + 4, hi => cases hi

set_option maxHeartbeats 4000000 in
theorem lw_walk (l : Launch) (hflags : l.flags = flags0) (b : Addr) (xs : List Int32) : MetFree l x (headSpec (Jvm.Cond.code x code maxLocals ret :: tables_1) room_1) (lw_P b xs) (fun _ _ _ _ _ => True) lw_Q := by
  refine MetFree.of_bodyS (code := code) (maxLocals := maxLocals) (ret := ret) (by decide) ?_ ?_
  · intro args s m h hn
    obtain ⟨meth, c, h1, h2, h3, h4, h5, h6, -, -⟩ := Cond.code_spec hn (atoms_spec (ws := Jvm.Cond.code x code maxLocals ret :: tables_1) h _ List.mem_cons_self)
    exact ⟨meth, c, h1, h2, h3, h4, h5, h6⟩
  · intro p e s m args below meth c s₁ B hml0 hP _
    obtain ⟨rfl, hx, hbd, hgv⟩ := hP
    obtain ⟨scr, harrAt, hlist, hof, hsmall⟩ := hx
    obtain ⟨hcb, hkn, -, -⟩ := State.arrayAt?_spec harrAt
    have hown : s.vm.findClass R_law = some m.cls := findClass_of_methodNamed B.named
    have hts0 : ∀ c ∈ (Jvm.Cond.code x code maxLocals ret :: tables_1), c.before #[Value.ref b] s = true := atoms_spec (ws := Jvm.Cond.code x code maxLocals ret :: tables_1) B.pre
    have hts : ∀ w ∈ lw_tbl, w.before #[Value.ref b] s = true := k2_hts_sels lw_privs (fun w hw => hts0 w (List.mem_cons_of_mem _ hw)) lw_privs_ok
    have hml : c.maxLocals = 4 := B.maxLocals_eq (hts0 _ List.mem_cons_self)
    have X₀ : Stand p l e room_1 s m #[Value.ref b] below meth c s₁ [] 0 0 := Stand.of_body B
    have hh0 : s₁.heap = s.heap := by rw [B.state]; rfl
    have hsz : scr.slots.size = xs.length := by rw [← Array.length_toList, hlist, List.length_map]
    have hval : ∀ j : Nat, j < xs.length → scr.slots[j]? = some (.int (xs.getD j 0)) := fun j hj => by
      rw [← Array.getElem?_toList, hlist]
      simp [hj]
    have hbl : b < s.heap.size := (Array.getElem?_eq_some_iff.mp hcb).1
    have hX : va_X b xs.length (fun j => xs.getD j 0) s s.heap := ⟨scr, hcb, hof, hkn, hsz, hval⟩
    have K : W p l e room_1 s m #[Value.ref b] below meth c s₁.heap [] 0 0 (lw_Z below #[Value.ref b] s) (entryFrame m ([Value.ref b] : List Value).toArray 4) := by
      rw [hh0]
      exact whole_start l hflags hbd ⟨B.exec, B.bytes, B.returns, hml, hown, hts, hX, hbl, B.notSynchronized, hgv⟩
    obtain ⟨t, a1, o, b1, b2, b3⟩ := K s₁ rfl X₀
    exact ⟨t, o, a1, b1, b2, b3⟩
theorem lw_pre_spec {args : Array Value} {s : State} (h : (Jvm.Cond.and given_1 narrow_1).before args s = true) (hr : rest_1_c.before args s = true) : ∃ (b : Addr) (xs : List Int32), lw_P b xs args s := by
  have hs := flat_of_before _ h
  have hq := flat_of_before _ hr
  have hc : (Cond.count 1).before args s = true := hs _ (by decide +kernel)
  have harr : (Cond.arrayOf (.arg 0) .int).before args s = true := hs _ (by decide +kernel)
  have hle : (Cond.le (.length (.arg 0)) (.int 2560)).before args s = true := hs _ (by decide +kernel)
  have hlen : (Cond.isInt (.length (.arg 0))).before args s = true := hq _ (by decide +kernel)
  have hall : (Cond.all (.arg 0) (.isInt (.elem (.arg 0) (.index 0)))).before args s = true := hq _ (by decide +kernel)
  obtain ⟨b, xs, hb, hx⟩ := State.ints_of_pre rfl harr hlen hall
  have hsm : xs.length < 2 ^ 31 := hx.choose_spec.2.2.2
  have hev : (Term.length (.arg 0)).eval args s none [] s = some (.int xs.length.toInt32) := hx.length_eval hb
  have hv := Cond.le_ints hev (show (Term.int 2560).eval args s none [] s = some (.int 2560) from rfl)
  have hd : xs.length.toInt32 ≤ 2560 := by
    simpa [Cond.before, Cond.holds, hv] using hle
  have hN : xs.length ≤ 2560 := (Int32.ofNat_le_ofNat hsm (by decide)).mp (show Int32.ofNat xs.length ≤ Int32.ofNat 2560 from hd)
  exact ⟨b, xs, Cond.one_arg hc (show args[0]? = some (.ref b) from hb), hx, hN, h⟩
theorem lw_comes (l : Launch) (hflags : l.flags = flags0) : Comes l x (Jvm.Cond.code x code maxLocals ret :: tables_1) room_1 (fun tb e args s => Calls_1 tb e args s ∧ rest_1 tb e args s ∧ Pre_1 tb e args s)
    (fun _ _ args s o t => lw_Q args s o t) := by
  intro p e ha hc hk s m args below hf hfit hheap happ hpre
  obtain ⟨b, xs, hP⟩ := lw_pre_spec hpre.2.2 hpre.2.1
  obtain ⟨k, o, h1, h2, h3, hQ⟩ := lw_walk l hflags b xs p e ha hc hk s m args below hf ((Spec.applies_iff_loose hf).mp happ).1 hP trivial
  exact ⟨k, o, h1, h2, h3, hQ⟩
theorem lw_frame {s t : State} {o : Outcome} {args : Array Value} (h : Framed s o t [] 600000 7302250) :
    Framed s o t (fieldLocs frame_1_writes args s ++ arrayLocs frame_1_arrays args s ++ staticLocs frame_1_statics s) 600000 7302250 := h
theorem lw_limb (L : Cond) (hL : ∀ (args : Array Value) (s t : State), L.after args s (.returned (some (.int 1))) t = true) :
    ArmFor flags0 classFile x code maxLocals ret World_1 tables_1 room_1 Calls_1 rest_1 Pre_1
      (fun tb e a s o t => postC L tb e a s o t ∧ Framed s o t (fieldLocs frame_1_writes a s ++ arrayLocs frame_1_arrays a s ++ staticLocs frame_1_statics s) 600000 7302250) := by
  intro l hflags _ _ p e ha hc hk s m args below hf hfit hheap happ hpre
  obtain ⟨k, o, h1, h2, h3, rfl, hF⟩ := lw_comes l hflags p e ha hc hk s m args below hf hfit hheap happ hpre
  exact ⟨k, _, h1, h2, h3, hL args s _, lw_frame hF⟩
theorem i_vc : Claimed_1_1 ∧ Claimed_1_2 := ⟨lw_limb limb_1_1 (fun args s t => by simp [limb_1_1, Cond.after, Cond.holds, Cond.value]), lw_limb limb_1_2 (fun args s t => Cond.after_iff.mpr (by
  first | (rw [show limb_1_2 = Cond.eq .result (.int 1) from rfl, Cond.eq_ints (x := 1) (y := 1) rfl rfl]; simp; done) | (simp [limb_1_2, Cond.value, Term.eval]; done)))⟩
