-- THE REFERENCE: stop (walk written by wip/whole/gen_rst.py)
theorem DR.stop {σ D : sto} {ns nv told sp sv f : Int} {σ' : sto} (h : DR σ D ns nv) (n0 : 0 ≤ ns) (hn : ns < 12)
    (h9 : σ' 169 13 = ns + 1) (hN : σ' 171 ns = told / 10 ∧ σ' 172 ns = told % 10 ∧ σ' 173 ns = sp / 1000 ∧ σ' 174 ns = sp % 1000 ∧ σ' 175 ns = sv / 100 ∧ σ' 176 ns = (if told / 10 = 2 then D 5 f else sv % 100) ∧ σ' 177 ns = (if told / 10 = 2 then f else -1) ∧ σ' 178 ns = 1)
    (hf : told / 10 = 2 → 0 ≤ f ∧ f < ns) (hF : told / 10 = 2 → σ' 177 f = ns) (hE : ∀ c i : Int, (c = 169 ∧ i = 14 ∨ 170 ≤ c ∧ c ≤ 182) → (178 < c ∨ c < 171 ∨ i ≠ ns) → (c ≠ 177 ∨ told / 10 ≠ 2 ∨ i ≠ f) → σ' c i = σ c i) : DR σ' (moreS D ns told sp sv f) (ns + 1) nv := by
  obtain ⟨g1, g2, g3, g4, g5, g6⟩ := h
  obtain ⟨b0, b1, b2, b3, b4, b5, b6, b7⟩ := hN
  refine ⟨h9, by rw [hE 169 14 (by omega) (by omega) (by omega)]; exact g2, fun s s0 s1 => ?_, fun s s0 s1 => ?_, fun u u0 u1 => ?_, ?_⟩
  · by_cases e : s = ns
    · rw [e, b0, b1, b2, b3, b4, b6, b7, ms_n, ms_n, ms_n, ms_n, ms_n, ms_n, ms_n]
      refine ⟨by rw [if_pos rfl], by rw [if_neg (by omega), if_pos rfl], ?_, ?_, ?_, ?_, ?_⟩
      · rw [if_neg (by omega), if_neg (by omega), if_pos rfl]
      · rw [if_neg (by omega), if_neg (by omega), if_neg (by omega), if_pos rfl]
      · rw [if_neg (by omega), if_neg (by omega), if_neg (by omega), if_neg (by omega), if_pos rfl]
      · rw [if_neg (show ¬ (6 : Int) = 0 by omega), if_neg (show ¬ (6 : Int) = 1 by omega), if_neg (show ¬ (6 : Int) = 2 by omega), if_neg (show ¬ (6 : Int) = 3 by omega), if_neg (show ¬ (6 : Int) = 4 by omega), if_neg (show ¬ (6 : Int) = 5 by omega), if_pos (show (6 : Int) = 6 from rfl)]
      · rw [if_neg (by omega), if_neg (by omega), if_neg (by omega), if_neg (by omega), if_neg (by omega), if_neg (by omega), if_neg (by omega), if_pos rfl]
    · obtain ⟨a1, a2, a3, a4, a5, a6, a7⟩ := g3 s s0 s1
      rw [hE 171 s (by omega) (by omega) (by omega), hE 172 s (by omega) (by omega) (by omega), hE 173 s (by omega) (by omega) (by omega), hE 174 s (by omega) (by omega) (by omega), hE 175 s (by omega) (by omega) (by omega), hE 178 s (by omega) (by omega) (by omega),
        ms_ne e (Or.inl (by omega)), ms_ne e (Or.inl (by omega)), ms_ne e (Or.inl (by omega)), ms_ne e (Or.inl (by omega)), ms_ne e (Or.inl (by omega)), ms_ne (k := 7) e (Or.inl (by omega))]
      refine ⟨a1, a2, a3, a4, a5, ?_, a7⟩
      by_cases q : told / 10 = 2 ∧ s = f
      · have := hf q.1
        rw [q.2, ms_f (by omega) q.1, hF q.1]
      · rw [ms_ne e (by omega), hE 177 s (by omega) (by omega) (by omega)]; exact a6
  · by_cases e : s = ns
    · rw [e, ms_n, b5]
      rw [if_neg (show ¬ (5 : Int) = 0 by omega), if_neg (show ¬ (5 : Int) = 1 by omega), if_neg (show ¬ (5 : Int) = 2 by omega), if_neg (show ¬ (5 : Int) = 3 by omega), if_neg (show ¬ (5 : Int) = 4 by omega), if_pos (show (5 : Int) = 5 from rfl)]
    · rw [ms_ne e (Or.inl (by omega)), hE 176 s (by omega) (by omega) (by omega)]; exact g4 s s0 (by omega)
  · rw [hE 179 _ (by omega) (by omega) (by omega), hE 180 _ (by omega) (by omega) (by omega), hE 181 _ (by omega) (by omega) (by omega), hE 182 _ (by omega) (by omega) (by omega), ms_hi (by omega), ms_hi (by omega), ms_hi (by omega), ms_hi (by omega)]; exact g5 u u0 u1
  · intro a b t a0 a1 c0 c1 t0 t1
    rw [hE 170 _ (by omega) (by omega) (by omega), tk_cg (D := D) (fun i => ms_hi (by omega))]; exact g6 a b t a0 a1 c0 c1 t0 t1
theorem cr_stop {σ : sto} {g : G} {told sp sv f : Int} (hI : RI σ g) (hk : g.ok) (h_told : inR told) (h_sp : inR sp) (h_sv : inR sv) (h_f : inR f) : CI M_Mod_stop 14 [vR 169, vI told, vI sp, vI sv, vI f] σ (QM (sp_stop g told sp sv f) σ) := by
  obtain ⟨hQ, hE⟩ := id hI
  obtain ⟨hC, hU, h45, hrow, h33, hrf⟩ := id hE
  obtain ⟨k1, k2, k3, k4, k5, k6⟩ := id hk
  have hn := k1.1
  have hRV := k2.rv hn.1 hn.2.1
  have k159 : 0 ≤ told → told % 10 < 8 → (told / 10 = 2 → (0 ≤ f ∧ f < g.ns) ∧ g.D 0 f = 1 ∧ g.D 6 f = -1 ∧ vanOf g.P f = -1) → told / 10 ≤ 4 → spanOK sp → 0 ≤ sv → sv / 100 ≤ 60 → (told / 10 = 2 ∨ sv % 100 ≤ 50) → Run M_Mod_stop (rxI 14 (QM (sp_stop g told sp sv f) σ)) (0, 0) 159 [vR 169, vI told, vI sp, vI sv, vI f, vI (told / 10), vU] [] (sg σ) := by
    intro t0 t1 hfd t2 hsp v0 v1 v2
    have k292 : g.ns < 12 → ∀ A B : Int, A = (if told / 10 = 2 then g.D 5 f else sv % 100) → B = (if told / 10 = 2 then f else -1) → Run M_Mod_stop (rxI 14 (QM (sp_stop g told sp sv f) σ)) (0, 0) 292 [vR 169, vI told, vI sp, vI sv, vI f, vI (told / 10), vI g.ns] [] (sg (wr (wr (wr (wr (wr (wr (wr (wr σ 169 13 (g.ns + 1)) 171 g.ns (told / 10)) 172 g.ns (told % 10)) 173 g.ns (sp / 1000)) 174 g.ns (sp % 1000)) 175 g.ns (sv / 100)) 176 g.ns A) 177 g.ns B)) := by
      intro hn12 A B hA hB
      refine r_iload 5 d_Mod_stop_292 rfl ?_
      refine r_iconst d_Mod_stop_294 ?_
      refine r_icmp_ne 307 d_Mod_stop_295 rfl (by omega) (by omega) (fun h295 => ?_) (fun h295 => ?_)
      · refine r_aload_n 0 d_Mod_stop_307 rfl rfl ?_
        refine r_getR 178 d_Mod_stop_308 fk_Mod_34 rfl rfl rfl (by decide) ?_
        refine r_iload 6 d_Mod_stop_311 rfl ?_
        refine r_iconst d_Mod_stop_313 ?_
        refine r_iast 12 d_Mod_stop_314 rfl rfl (by omega) (by omega) ?_
        refine r_aload_n 0 d_Mod_stop_315 rfl rfl ?_
        refine r_iconst d_Mod_stop_316 ?_
        refine r_putI 20 d_Mod_stop_317 fk_Mod_137 rfl rfl rfl (Or.inl rfl) ?_
        refine r_iload 6 d_Mod_stop_320 rfl ?_
        refine q_iret d_Mod_stop_322 rfl ?_
        have hDR : DR (wr (wr (wr (wr (wr (wr (wr (wr (wr σ 169 13 (g.ns + 1)) 171 g.ns (told / 10)) 172 g.ns (told % 10)) 173 g.ns (sp / 1000)) 174 g.ns (sp % 1000)) 175 g.ns (sv / 100)) 176 g.ns A) 177 g.ns B) 178 g.ns 1) (moreS g.D g.ns told sp sv f) (g.ns + 1) g.nv := hC.stop hn.1 (by omega) (by (repeat (first | rw [wr_eq] | rw [wr_ne (by omega)]))) ⟨by (repeat (first | rw [wr_eq] | rw [wr_ne (by omega)])), by (repeat (first | rw [wr_eq] | rw [wr_ne (by omega)])), by (repeat (first | rw [wr_eq] | rw [wr_ne (by omega)])), by (repeat (first | rw [wr_eq] | rw [wr_ne (by omega)])), by (repeat (first | rw [wr_eq] | rw [wr_ne (by omega)])), by (repeat (first | rw [wr_eq] | rw [wr_ne (by omega)])); exact hA, by (repeat (first | rw [wr_eq] | rw [wr_ne (by omega)])); exact hB, by (repeat (first | rw [wr_eq] | rw [wr_ne (by omega)]))⟩ (fun z => (hfd z).1) (fun z => by first | (exfalso; omega) | (repeat (first | rw [wr_eq] | rw [wr_ne (by omega)]))) (fun c i z1 z2 z3 => by (repeat (first | rw [wr_eq] | rw [wr_ne (by omega)])))
        exact qn_eq (rin_data hI (fun c i q => by (repeat (first | rw [wr_eq] | rw [wr_ne (by omega)]))) hDR) (by unfold sp_stop; (repeat (first | rw [if_pos (by omega)] | rw [if_neg (by omega)])); (try rfl))
      · refine r_aload_n 0 d_Mod_stop_298 rfl rfl ?_
        refine r_getR 177 d_Mod_stop_299 fk_Mod_31 rfl rfl rfl (by decide) ?_
        refine r_iload 4 d_Mod_stop_302 rfl ?_
        refine r_iload 6 d_Mod_stop_304 rfl ?_
        refine r_iast 12 d_Mod_stop_306 rfl rfl (by omega) (by omega) ?_
        refine r_aload_n 0 d_Mod_stop_307 rfl rfl ?_
        refine r_getR 178 d_Mod_stop_308 fk_Mod_34 rfl rfl rfl (by decide) ?_
        refine r_iload 6 d_Mod_stop_311 rfl ?_
        refine r_iconst d_Mod_stop_313 ?_
        refine r_iast 12 d_Mod_stop_314 rfl rfl (by omega) (by omega) ?_
        refine r_aload_n 0 d_Mod_stop_315 rfl rfl ?_
        refine r_iconst d_Mod_stop_316 ?_
        refine r_putI 20 d_Mod_stop_317 fk_Mod_137 rfl rfl rfl (Or.inl rfl) ?_
        refine r_iload 6 d_Mod_stop_320 rfl ?_
        refine q_iret d_Mod_stop_322 rfl ?_
        have hDR : DR (wr (wr (wr (wr (wr (wr (wr (wr (wr (wr σ 169 13 (g.ns + 1)) 171 g.ns (told / 10)) 172 g.ns (told % 10)) 173 g.ns (sp / 1000)) 174 g.ns (sp % 1000)) 175 g.ns (sv / 100)) 176 g.ns A) 177 g.ns B) 177 f g.ns) 178 g.ns 1) (moreS g.D g.ns told sp sv f) (g.ns + 1) g.nv := hC.stop hn.1 (by omega) (by (repeat (first | rw [wr_eq] | rw [wr_ne (by omega)]))) ⟨by (repeat (first | rw [wr_eq] | rw [wr_ne (by omega)])), by (repeat (first | rw [wr_eq] | rw [wr_ne (by omega)])), by (repeat (first | rw [wr_eq] | rw [wr_ne (by omega)])), by (repeat (first | rw [wr_eq] | rw [wr_ne (by omega)])), by (repeat (first | rw [wr_eq] | rw [wr_ne (by omega)])), by (repeat (first | rw [wr_eq] | rw [wr_ne (by omega)])); exact hA, by (repeat (first | rw [wr_eq] | rw [wr_ne (by omega)])); exact hB, by (repeat (first | rw [wr_eq] | rw [wr_ne (by omega)]))⟩ (fun z => (hfd z).1) (fun z => by first | (exfalso; omega) | (repeat (first | rw [wr_eq] | rw [wr_ne (by omega)]))) (fun c i z1 z2 z3 => by (repeat (first | rw [wr_eq] | rw [wr_ne (by omega)])))
        exact qn_eq (rin_data hI (fun c i q => by (repeat (first | rw [wr_eq] | rw [wr_ne (by omega)]))) hDR) (by unfold sp_stop; (repeat (first | rw [if_pos (by omega)] | rw [if_neg (by omega)])); (try rfl))
    have k273 : g.ns < 12 → ∀ A : Int, A = (if told / 10 = 2 then g.D 5 f else sv % 100) → Run M_Mod_stop (rxI 14 (QM (sp_stop g told sp sv f) σ)) (0, 0) 273 [vR 169, vI told, vI sp, vI sv, vI f, vI (told / 10), vI g.ns] [] (sg (wr (wr (wr (wr (wr (wr (wr σ 169 13 (g.ns + 1)) 171 g.ns (told / 10)) 172 g.ns (told % 10)) 173 g.ns (sp / 1000)) 174 g.ns (sp % 1000)) 175 g.ns (sv / 100)) 176 g.ns A)) := by
      intro hn12 A hA
      refine r_aload_n 0 d_Mod_stop_273 rfl rfl ?_
      refine r_getR 177 d_Mod_stop_274 fk_Mod_31 rfl rfl rfl (by decide) ?_
      refine r_iload 6 d_Mod_stop_277 rfl ?_
      refine r_iload 5 d_Mod_stop_279 rfl ?_
      refine r_iconst d_Mod_stop_281 ?_
      refine r_icmp_ne 290 d_Mod_stop_282 rfl (by omega) (by omega) (fun h282 => ?_) (fun h282 => ?_)
      · refine r_iconst d_Mod_stop_290 ?_
        refine r_iast 12 d_Mod_stop_291 rfl rfl (by omega) (by omega) ?_
        exact k292 hn12 _ _ hA (by first | rw [if_pos (by omega)] | rw [if_neg (by omega)])
      · refine r_iload 4 d_Mod_stop_285 rfl ?_
        refine r_goto 291 d_Mod_stop_287 rfl ?_
        refine r_iast 12 d_Mod_stop_291 rfl rfl (by omega) (by omega) ?_
        exact k292 hn12 _ _ hA (by first | rw [if_pos (by omega)] | rw [if_neg (by omega)])
    refine r_aload_n 0 d_Mod_stop_159 rfl rfl ?_
    refine r_getI 13 d_Mod_stop_160 fk_Mod_102 rfl rfl rfl ?_
    rw [hC.1]
    refine r_bipush d_Mod_stop_163 (by decide) ?_
    refine r_icmp_ne 175 d_Mod_stop_165 rfl (by omega) (by omega) (fun h165 => ?_) (fun h165 => ?_)
    · refine r_aload_n 0 d_Mod_stop_175 rfl rfl ?_
      refine r_getI 13 d_Mod_stop_176 fk_Mod_102 rfl rfl rfl ?_
      rw [hC.1]
      refine r_istore 6 d_Mod_stop_179 (by decide) rfl ?_
      refine r_aload_n 0 d_Mod_stop_181 rfl rfl ?_
      refine r_dup d_Mod_stop_182 rfl ?_
      refine r_getI 13 d_Mod_stop_183 fk_Mod_102 rfl rfl rfl ?_
      rw [hC.1]
      refine r_iconst d_Mod_stop_186 ?_
      refine r_iadd d_Mod_stop_187 ?_
      refine r_putI 13 d_Mod_stop_188 fk_Mod_102 rfl rfl rfl (Or.inl rfl) ?_
      refine r_aload_n 0 d_Mod_stop_191 rfl rfl ?_
      refine r_getR 171 d_Mod_stop_192 fk_Mod_13 rfl rfl rfl (by decide) ?_
      refine r_iload 6 d_Mod_stop_195 rfl ?_
      refine r_iload 5 d_Mod_stop_197 rfl ?_
      refine r_iast 12 d_Mod_stop_199 rfl rfl (by omega) (by omega) ?_
      refine r_aload_n 0 d_Mod_stop_200 rfl rfl ?_
      refine r_getR 172 d_Mod_stop_201 fk_Mod_16 rfl rfl rfl (by decide) ?_
      refine r_iload 6 d_Mod_stop_204 rfl ?_
      refine r_iload_n 1 d_Mod_stop_206 rfl rfl ?_
      refine r_bipush d_Mod_stop_207 (by decide) ?_
      refine r_irem d_Mod_stop_209 (by omega) (by omega) ?_
      refine r_iast 12 d_Mod_stop_210 rfl rfl (by omega) (by omega) ?_
      refine r_aload_n 0 d_Mod_stop_211 rfl rfl ?_
      refine r_getR 173 d_Mod_stop_212 fk_Mod_19 rfl rfl rfl (by decide) ?_
      refine r_iload 6 d_Mod_stop_215 rfl ?_
      refine r_iload_n 2 d_Mod_stop_217 rfl rfl ?_
      refine r_sipush d_Mod_stop_218 (by decide) ?_
      refine r_idiv d_Mod_stop_221 (by omega) (by omega) ?_
      refine r_iast 12 d_Mod_stop_222 rfl rfl (by omega) (by omega) ?_
      refine r_aload_n 0 d_Mod_stop_223 rfl rfl ?_
      refine r_getR 174 d_Mod_stop_224 fk_Mod_22 rfl rfl rfl (by decide) ?_
      refine r_iload 6 d_Mod_stop_227 rfl ?_
      refine r_iload_n 2 d_Mod_stop_229 rfl rfl ?_
      refine r_sipush d_Mod_stop_230 (by decide) ?_
      refine r_irem d_Mod_stop_233 (by omega) (by omega) ?_
      refine r_iast 12 d_Mod_stop_234 rfl rfl (by omega) (by omega) ?_
      refine r_aload_n 0 d_Mod_stop_235 rfl rfl ?_
      refine r_getR 175 d_Mod_stop_236 fk_Mod_25 rfl rfl rfl (by decide) ?_
      refine r_iload 6 d_Mod_stop_239 rfl ?_
      refine r_iload_n 3 d_Mod_stop_241 rfl rfl ?_
      refine r_bipush d_Mod_stop_242 (by decide) ?_
      refine r_idiv d_Mod_stop_244 (by omega) (by omega) ?_
      refine r_iast 12 d_Mod_stop_245 rfl rfl (by omega) (by omega) ?_
      refine r_aload_n 0 d_Mod_stop_246 rfl rfl ?_
      refine r_getR 176 d_Mod_stop_247 fk_Mod_28 rfl rfl rfl (by decide) ?_
      refine r_iload 6 d_Mod_stop_250 rfl ?_
      refine r_iload 5 d_Mod_stop_252 rfl ?_
      refine r_iconst d_Mod_stop_254 ?_
      refine r_icmp_ne 268 d_Mod_stop_255 rfl (by omega) (by omega) (fun h255 => ?_) (fun h255 => ?_)
      · refine r_iload_n 3 d_Mod_stop_268 rfl rfl ?_
        refine r_bipush d_Mod_stop_269 (by decide) ?_
        refine r_irem d_Mod_stop_271 (by omega) (by omega) ?_
        refine r_iast 12 d_Mod_stop_272 rfl rfl (by omega) (by omega) ?_
        exact k273 (by omega) _ (by first | rw [if_pos (by omega)] | rw [if_neg (by omega)])
      · refine r_aload_n 0 d_Mod_stop_258 rfl rfl ?_
        refine r_getR 176 d_Mod_stop_259 fk_Mod_28 rfl rfl rfl (by decide) ?_
        refine r_iload 4 d_Mod_stop_262 rfl ?_
        refine r_iald 12 d_Mod_stop_264 rfl rfl (by omega) (by omega) ?_
        have hff := hfd (by omega)
        have ham := hC.am (s := f) (by omega) (by omega)
        have e264 : (wr (wr (wr (wr (wr (wr σ 169 13 (g.ns + 1)) 171 g.ns (told / 10)) 172 g.ns (told % 10)) 173 g.ns (sp / 1000)) 174 g.ns (sp % 1000)) 175 g.ns (sv / 100)) 176 f = g.D 5 f := by (repeat (first | rw [wr_eq] | rw [wr_ne (by omega)])); exact ham
        rw [e264]
        refine r_goto 272 d_Mod_stop_265 rfl ?_
        refine r_iast 12 d_Mod_stop_272 rfl rfl (by omega) (by omega) ?_
        exact k273 (by omega) _ (by first | rw [if_pos (by omega)] | rw [if_neg (by omega)])
    · refine r_aload_n 0 d_Mod_stop_168 rfl rfl ?_
      refine r_bipush d_Mod_stop_169 (by decide) ?_
      refine r_cVI 8 d_Mod_stop_171 lk_Mod_126 vc_Mod_no (mt_no (by omega)) rfl rfl rfl rfl ⟨Nat.le_of_ble_eq_true rfl, Nat.le_of_ble_eq_true rfl⟩ ⟨Nat.zero_le _, Nat.zero_le _⟩ (Nat.le_of_ble_eq_true rfl) (fun r171 s171 q171 => ?_)
      have q := q171
      refine q_iret d_Mod_stop_174 rfl ?_
      exact qn_no hI MF.rf q (by unfold sp_stop; (repeat (first | rw [if_pos (by omega)] | rw [if_neg (by omega)])); (try rfl))
  have k127 : 0 ≤ told → told % 10 < 8 → (told / 10 = 2 → (0 ≤ f ∧ f < g.ns) ∧ g.D 0 f = 1) → told / 10 ≤ 4 → spanOK sp → 0 ≤ sv → sv / 100 ≤ 60 → (told / 10 = 2 ∨ sv % 100 ≤ 50) → Run M_Mod_stop (rxI 14 (QM (sp_stop g told sp sv f) σ)) (0, 0) 127 [vR 169, vI told, vI sp, vI sv, vI f, vI (told / 10), vU] [] (sg σ) := by
    intro t0 t1 hfd t2 hsp v0 v1 v2
    have hat : told / 10 = 2 → σ 177 f = g.D 6 f := fun z => by have := hfd z; exact (hC.at (s := f) (by omega) (by omega)).2.2.2.2.2.1
    have hdf : told / 10 = 2 → -1 ≤ g.D 6 f ∧ g.D 6 f < 12 := fun z => by have := hfd z; have := (k1.2.1 f (by omega) (by omega)).2.2.2.2.2.1; omega
    have hvo := vanOf_in g.P f
    refine r_iload 5 d_Mod_stop_127 rfl ?_
    refine r_iconst d_Mod_stop_129 ?_
    refine r_icmp_ne 159 d_Mod_stop_130 rfl (by omega) (by omega) (fun h130 => ?_) (fun h130 => ?_)
    · exact k159 t0 t1 (by omega) t2 hsp v0 v1 v2
    · refine r_aload_n 0 d_Mod_stop_133 rfl rfl ?_
      have hff := hfd (by omega)
      have hdf2 := hdf (by omega)
      refine r_getR 177 d_Mod_stop_134 fk_Mod_31 rfl rfl rfl (by decide) ?_
      refine r_iload 4 d_Mod_stop_137 rfl ?_
      refine r_iald 12 d_Mod_stop_139 rfl rfl (by omega) (by omega) ?_
      rw [hat (by omega)]
      refine r_if_ge 152 d_Mod_stop_140 rfl (by omega) (fun h140 => ?_) (fun h140 => ?_)
      · refine r_aload_n 0 d_Mod_stop_152 rfl rfl ?_
        refine r_bipush d_Mod_stop_153 (by decide) ?_
        refine r_cVI 8 d_Mod_stop_155 lk_Mod_126 vc_Mod_no (mt_no (by omega)) rfl rfl rfl rfl ⟨Nat.le_of_ble_eq_true rfl, Nat.le_of_ble_eq_true rfl⟩ ⟨Nat.zero_le _, Nat.zero_le _⟩ (Nat.le_of_ble_eq_true rfl) (fun r155 s155 q155 => ?_)
        have q := q155
        refine q_iret d_Mod_stop_158 rfl ?_
        exact qn_no hI MF.rf q (by unfold sp_stop; (repeat (first | rw [if_pos (by omega)] | rw [if_neg (by omega)])); (try rfl))
      · refine r_aload_n 0 d_Mod_stop_143 rfl rfl ?_
        refine r_iload 4 d_Mod_stop_144 rfl ?_
        refine r_cVP 8 d_Mod_stop_146 lk_Mod_156 vc_Mod_vanOf (mt_vanOf hC ⟨hn.2.2.1, hn.2.2.2⟩ hQ k2 (by omega)) rfl rfl rfl rfl ⟨Nat.le_of_ble_eq_true rfl, Nat.le_of_ble_eq_true rfl⟩ ⟨Nat.zero_le _, Nat.zero_le _⟩ (Nat.le_of_ble_eq_true rfl) ?_
        refine r_if_lt 159 d_Mod_stop_149 rfl (by omega) (fun h149 => ?_) (fun h149 => ?_)
        · exact k159 t0 t1 (by omega) t2 hsp v0 v1 v2
        · refine r_aload_n 0 d_Mod_stop_152 rfl rfl ?_
          refine r_bipush d_Mod_stop_153 (by decide) ?_
          refine r_cVI 8 d_Mod_stop_155 lk_Mod_126 vc_Mod_no (mt_no (by omega)) rfl rfl rfl rfl ⟨Nat.le_of_ble_eq_true rfl, Nat.le_of_ble_eq_true rfl⟩ ⟨Nat.zero_le _, Nat.zero_le _⟩ (Nat.le_of_ble_eq_true rfl) (fun r155 s155 q155 => ?_)
          have q := q155
          refine q_iret d_Mod_stop_158 rfl ?_
          exact qn_no hI MF.rf q (by unfold sp_stop; (repeat (first | rw [if_pos (by omega)] | rw [if_neg (by omega)])); (try rfl))
  have k72 : 0 ≤ told → told % 10 < 8 → (told / 10 = 2 → (0 ≤ f ∧ f < g.ns) ∧ g.D 0 f = 1) → Run M_Mod_stop (rxI 14 (QM (sp_stop g told sp sv f) σ)) (0, 0) 72 [vR 169, vI told, vI sp, vI sv, vI f, vI (told / 10), vU] [] (sg σ) := by
    intro t0 t1 hfd
    refine r_iload 5 d_Mod_stop_72 rfl ?_
    refine r_i2l d_Mod_stop_74 (by omega) ?_
    refine r_lconst (z := 0) d_Mod_stop_75 (by decide) ?_
    refine r_ldc2 kc_Mod_151 d_Mod_stop_76 ?_
    refine r_cSI d_Mod_stop_79 lk_Mod_122 sc_Mod_isIn (mt_isIn (by omega) (by omega) (by omega)) rfl rfl ⟨Nat.le_of_ble_eq_true rfl, Nat.le_of_ble_eq_true rfl⟩ ⟨Nat.zero_le _, Nat.zero_le _⟩ (Nat.le_of_ble_eq_true rfl) (fun r79 s79 q79 => ?_)
    obtain ⟨q79, hs79⟩ := q79
    have hs79 := hs79.symm
    subst hs79
    refine r_if_eq 120 d_Mod_stop_82 rfl (by omega) (fun h82 => ?_) (fun h82 => ?_)
    · refine r_aload_n 0 d_Mod_stop_120 rfl rfl ?_
      refine r_bipush d_Mod_stop_121 (by decide) ?_
      refine r_cVI 8 d_Mod_stop_123 lk_Mod_126 vc_Mod_no (mt_no (by omega)) rfl rfl rfl rfl ⟨Nat.le_of_ble_eq_true rfl, Nat.le_of_ble_eq_true rfl⟩ ⟨Nat.zero_le _, Nat.zero_le _⟩ (Nat.le_of_ble_eq_true rfl) (fun r123 s123 q123 => ?_)
      have q := q123
      refine q_iret d_Mod_stop_126 rfl ?_
      exact qn_no hI MF.rf q (by unfold sp_stop; (repeat (first | rw [if_pos (by omega)] | rw [if_neg (by omega)])); (try rfl))
    · refine r_iload_n 2 d_Mod_stop_85 rfl rfl ?_
      refine r_cSI d_Mod_stop_86 lk_Mod_153 sc_Mod_isSpan (mt_isSpan (by omega)) rfl rfl ⟨Nat.le_of_ble_eq_true rfl, Nat.le_of_ble_eq_true rfl⟩ ⟨Nat.zero_le _, Nat.zero_le _⟩ (Nat.le_of_ble_eq_true rfl) (fun r86 s86 q86 => ?_)
      obtain ⟨q86, hs86⟩ := q86
      have hs86 := hs86.symm
      subst hs86
      refine r_if_eq 120 d_Mod_stop_89 rfl (by omega) (fun h89 => ?_) (fun h89 => ?_)
      · refine r_aload_n 0 d_Mod_stop_120 rfl rfl ?_
        refine r_bipush d_Mod_stop_121 (by decide) ?_
        refine r_cVI 8 d_Mod_stop_123 lk_Mod_126 vc_Mod_no (mt_no (by omega)) rfl rfl rfl rfl ⟨Nat.le_of_ble_eq_true rfl, Nat.le_of_ble_eq_true rfl⟩ ⟨Nat.zero_le _, Nat.zero_le _⟩ (Nat.le_of_ble_eq_true rfl) (fun r123 s123 q123 => ?_)
        have q := q123
        refine q_iret d_Mod_stop_126 rfl ?_
        exact qn_no hI MF.rf q (by unfold sp_stop; (repeat (first | rw [if_pos (by omega)] | rw [if_neg (by omega)])); (try rfl))
      · refine r_iload_n 3 d_Mod_stop_92 rfl rfl ?_
        refine r_if_lt 120 d_Mod_stop_93 rfl (by omega) (fun h93 => ?_) (fun h93 => ?_)
        · refine r_aload_n 0 d_Mod_stop_120 rfl rfl ?_
          refine r_bipush d_Mod_stop_121 (by decide) ?_
          refine r_cVI 8 d_Mod_stop_123 lk_Mod_126 vc_Mod_no (mt_no (by omega)) rfl rfl rfl rfl ⟨Nat.le_of_ble_eq_true rfl, Nat.le_of_ble_eq_true rfl⟩ ⟨Nat.zero_le _, Nat.zero_le _⟩ (Nat.le_of_ble_eq_true rfl) (fun r123 s123 q123 => ?_)
          have q := q123
          refine q_iret d_Mod_stop_126 rfl ?_
          exact qn_no hI MF.rf q (by unfold sp_stop; (repeat (first | rw [if_pos (by omega)] | rw [if_neg (by omega)])); (try rfl))
        · refine r_iload_n 3 d_Mod_stop_96 rfl rfl ?_
          refine r_bipush d_Mod_stop_97 (by decide) ?_
          refine r_idiv d_Mod_stop_99 (by omega) (by omega) ?_
          refine r_bipush d_Mod_stop_100 (by decide) ?_
          refine r_icmp_gt 120 d_Mod_stop_102 rfl (by omega) (by omega) (fun h102 => ?_) (fun h102 => ?_)
          · refine r_aload_n 0 d_Mod_stop_120 rfl rfl ?_
            refine r_bipush d_Mod_stop_121 (by decide) ?_
            refine r_cVI 8 d_Mod_stop_123 lk_Mod_126 vc_Mod_no (mt_no (by omega)) rfl rfl rfl rfl ⟨Nat.le_of_ble_eq_true rfl, Nat.le_of_ble_eq_true rfl⟩ ⟨Nat.zero_le _, Nat.zero_le _⟩ (Nat.le_of_ble_eq_true rfl) (fun r123 s123 q123 => ?_)
            have q := q123
            refine q_iret d_Mod_stop_126 rfl ?_
            exact qn_no hI MF.rf q (by unfold sp_stop; (repeat (first | rw [if_pos (by omega)] | rw [if_neg (by omega)])); (try rfl))
          · refine r_iload 5 d_Mod_stop_105 rfl ?_
            refine r_iconst d_Mod_stop_107 ?_
            refine r_icmp_eq 127 d_Mod_stop_108 rfl (by omega) (by omega) (fun h108 => ?_) (fun h108 => ?_)
            · exact k127 t0 t1 hfd (by omega) (by omega) (by omega) (by omega) (by omega)
            · refine r_iload_n 3 d_Mod_stop_111 rfl rfl ?_
              refine r_bipush d_Mod_stop_112 (by decide) ?_
              refine r_irem d_Mod_stop_114 (by omega) (by omega) ?_
              refine r_bipush d_Mod_stop_115 (by decide) ?_
              refine r_icmp_le 127 d_Mod_stop_117 rfl (by omega) (by omega) (fun h117 => ?_) (fun h117 => ?_)
              · exact k127 t0 t1 hfd (by omega) (by omega) (by omega) (by omega) (by omega)
              · refine r_aload_n 0 d_Mod_stop_120 rfl rfl ?_
                refine r_bipush d_Mod_stop_121 (by decide) ?_
                refine r_cVI 8 d_Mod_stop_123 lk_Mod_126 vc_Mod_no (mt_no (by omega)) rfl rfl rfl rfl ⟨Nat.le_of_ble_eq_true rfl, Nat.le_of_ble_eq_true rfl⟩ ⟨Nat.zero_le _, Nat.zero_le _⟩ (Nat.le_of_ble_eq_true rfl) (fun r123 s123 q123 => ?_)
                have q := q123
                refine q_iret d_Mod_stop_126 rfl ?_
                exact qn_no hI MF.rf q (by unfold sp_stop; (repeat (first | rw [if_pos (by omega)] | rw [if_neg (by omega)])); (try rfl))
  have k48 : 0 ≤ told → told % 10 < 8 → (told / 10 = 2 → 0 ≤ f ∧ f < g.ns) → Run M_Mod_stop (rxI 14 (QM (sp_stop g told sp sv f) σ)) (0, 0) 48 [vR 169, vI told, vI sp, vI sv, vI f, vI (told / 10), vU] [] (sg σ) := by
    intro t0 t1 hfd
    refine r_iload 5 d_Mod_stop_48 rfl ?_
    refine r_iconst d_Mod_stop_50 ?_
    refine r_icmp_ne 72 d_Mod_stop_51 rfl (by omega) (by omega) (fun h51 => ?_) (fun h51 => ?_)
    · exact k72 t0 t1 (by omega)
    · refine r_aload_n 0 d_Mod_stop_54 rfl rfl ?_
      have hff := hfd (by omega)
      have hat := hC.at (s := f) (by omega) (by omega)
      have hdf := (k1.2.1 f (by omega) (by omega)).1
      refine r_getR 171 d_Mod_stop_55 fk_Mod_13 rfl rfl rfl (by decide) ?_
      refine r_iload 4 d_Mod_stop_58 rfl ?_
      refine r_iald 12 d_Mod_stop_60 rfl rfl (by omega) (by omega) ?_
      rw [hat.1]
      refine r_iconst d_Mod_stop_61 ?_
      refine r_icmp_eq 72 d_Mod_stop_62 rfl (by omega) (by omega) (fun h62 => ?_) (fun h62 => ?_)
      · exact k72 t0 t1 (by omega)
      · refine r_aload_n 0 d_Mod_stop_65 rfl rfl ?_
        refine r_bipush d_Mod_stop_66 (by decide) ?_
        refine r_cVI 8 d_Mod_stop_68 lk_Mod_126 vc_Mod_no (mt_no (by omega)) rfl rfl rfl rfl ⟨Nat.le_of_ble_eq_true rfl, Nat.le_of_ble_eq_true rfl⟩ ⟨Nat.zero_le _, Nat.zero_le _⟩ (Nat.le_of_ble_eq_true rfl) (fun r68 s68 q68 => ?_)
        have q := q68
        refine q_iret d_Mod_stop_71 rfl ?_
        exact qn_no hI MF.rf q (by unfold sp_stop; (repeat (first | rw [if_pos (by omega)] | rw [if_neg (by omega)])); (try rfl))
  refine ci_of [vR 169, vI told, vI sp, vI sv, vI f, vU, vU] fy_Mod_stop.1 rfl (Nat.le_of_ble_eq_true rfl) ?_
  refine r_iload_n 1 d_Mod_stop_0 rfl rfl ?_
  refine r_if_lt 13 d_Mod_stop_1 rfl (by omega) (fun h1 => ?_) (fun h1 => ?_)
  · refine r_aload_n 0 d_Mod_stop_13 rfl rfl ?_
    refine r_bipush d_Mod_stop_14 (by decide) ?_
    refine r_cVI 8 d_Mod_stop_16 lk_Mod_126 vc_Mod_no (mt_no (by omega)) rfl rfl rfl rfl ⟨Nat.le_of_ble_eq_true rfl, Nat.le_of_ble_eq_true rfl⟩ ⟨Nat.zero_le _, Nat.zero_le _⟩ (Nat.le_of_ble_eq_true rfl) (fun r16 s16 q16 => ?_)
    have q := q16
    refine q_iret d_Mod_stop_19 rfl ?_
    exact qn_no hI MF.rf q (by unfold sp_stop; (repeat (first | rw [if_pos (by omega)] | rw [if_neg (by omega)])); (try rfl))
  · refine r_iload_n 1 d_Mod_stop_4 rfl rfl ?_
    refine r_bipush d_Mod_stop_5 (by decide) ?_
    refine r_irem d_Mod_stop_7 (by omega) (by omega) ?_
    refine r_bipush d_Mod_stop_8 (by decide) ?_
    refine r_icmp_lt 20 d_Mod_stop_10 rfl (by omega) (by omega) (fun h10 => ?_) (fun h10 => ?_)
    · refine r_iload_n 1 d_Mod_stop_20 rfl rfl ?_
      refine r_bipush d_Mod_stop_21 (by decide) ?_
      refine r_idiv d_Mod_stop_23 (by omega) (by omega) ?_
      refine r_istore 5 d_Mod_stop_24 (by decide) rfl ?_
      refine r_iload 5 d_Mod_stop_26 rfl ?_
      refine r_iconst d_Mod_stop_28 ?_
      refine r_icmp_ne 48 d_Mod_stop_29 rfl (by omega) (by omega) (fun h29 => ?_) (fun h29 => ?_)
      · exact k48 (by omega) (by omega) (by omega)
      · refine r_aload_n 0 d_Mod_stop_32 rfl rfl ?_
        refine r_iload 4 d_Mod_stop_33 rfl ?_
        refine r_cVI 8 d_Mod_stop_35 lk_Mod_148 vc_Mod_isStop (mt_isStop hC.1 (by omega) (by omega)) rfl rfl rfl rfl ⟨Nat.le_of_ble_eq_true rfl, Nat.le_of_ble_eq_true rfl⟩ ⟨Nat.zero_le _, Nat.zero_le _⟩ (Nat.le_of_ble_eq_true rfl) (fun r35 s35 q35 => ?_)
        obtain ⟨q35, hs35⟩ := q35
        have hs35 := hs35.symm
        subst hs35
        refine r_if_ne 48 d_Mod_stop_38 rfl (by omega) (fun h38 => ?_) (fun h38 => ?_)
        · exact k48 (by omega) (by omega) (by omega)
        · refine r_aload_n 0 d_Mod_stop_41 rfl rfl ?_
          refine r_bipush d_Mod_stop_42 (by decide) ?_
          refine r_cVI 8 d_Mod_stop_44 lk_Mod_126 vc_Mod_no (mt_no (by omega)) rfl rfl rfl rfl ⟨Nat.le_of_ble_eq_true rfl, Nat.le_of_ble_eq_true rfl⟩ ⟨Nat.zero_le _, Nat.zero_le _⟩ (Nat.le_of_ble_eq_true rfl) (fun r44 s44 q44 => ?_)
          have q := q44
          refine q_iret d_Mod_stop_47 rfl ?_
          exact qn_no hI MF.rf q (by unfold sp_stop; (repeat (first | rw [if_pos (by omega)] | rw [if_neg (by omega)])); (try rfl))
    · refine r_aload_n 0 d_Mod_stop_13 rfl rfl ?_
      refine r_bipush d_Mod_stop_14 (by decide) ?_
      refine r_cVI 8 d_Mod_stop_16 lk_Mod_126 vc_Mod_no (mt_no (by omega)) rfl rfl rfl rfl ⟨Nat.le_of_ble_eq_true rfl, Nat.le_of_ble_eq_true rfl⟩ ⟨Nat.zero_le _, Nat.zero_le _⟩ (Nat.le_of_ble_eq_true rfl) (fun r16 s16 q16 => ?_)
      have q := q16
      refine q_iret d_Mod_stop_19 rfl ?_
      exact qn_no hI MF.rf q (by unfold sp_stop; (repeat (first | rw [if_pos (by omega)] | rw [if_neg (by omega)])); (try rfl))
