-- THE CLASS: stop (walk written by wip/whole/gen_stp.py)
section moreS
variable {D : sto} {n told sp sv f : Int}
theorem ms_n (k : Int) : moreS D n told sp sv f k n = (if k = 0 then told / 10 else if k = 1 then told % 10 else if k = 2 then sp / 1000 else if k = 3 then sp % 1000 else if k = 4 then sv / 100 else if k = 5 then (if told / 10 = 2 then D 5 f else sv % 100) else if k = 6 then (if told / 10 = 2 then f else -1) else if k = 7 then 1 else D k n) := if_pos rfl
theorem ms_ne {k s : Int} (h : s ≠ n) (g : k ≠ 6 ∨ told / 10 ≠ 2 ∨ s ≠ f) : moreS D n told sp sv f k s = D k s := by
  unfold moreS; rw [if_neg h, if_neg (by omega)]
theorem ms_f (h : f ≠ n) (g : told / 10 = 2) : moreS D n told sp sv f 6 f = n := by
  unfold moreS; rw [if_neg h, if_pos ⟨rfl, g, rfl⟩]
theorem ms_hi {k s : Int} (h : 8 ≤ k) : moreS D n told sp sv f k s = D k s := by
  unfold moreS
  by_cases e : s = n
  · rw [if_pos e, if_neg (by omega), if_neg (by omega), if_neg (by omega), if_neg (by omega), if_neg (by omega), if_neg (by omega), if_neg (by omega), if_neg (by omega)]
  · rw [if_neg e, if_neg (by omega)]
end moreS
theorem DOK.stop {D : sto} {ns nv told sp sv f : Int} (h : DOK D ns nv) (hn : ns < 12) (t0 : 0 ≤ told) (t1 : told % 10 < 8) (t2 : told / 10 ≤ 4) (hs : spanOK sp) (v0 : 0 ≤ sv) (v1 : sv / 100 ≤ 60) (v2 : told / 10 = 2 ∨ sv % 100 ≤ 50) (hf : told / 10 = 2 → (0 ≤ f ∧ f < ns) ∧ D 0 f = 1 ∧ D 6 f = -1) : DOK (moreS D ns told sp sv f) (ns + 1) nv := by
  obtain ⟨g1, g2, g3, g4, g5⟩ := h
  refine ⟨by omega, fun s s0 s1 => ?_, fun s s0 s1 => ?_, fun u u0 u1 => ?_, SOK_cg (fun i => ms_hi (by omega)) g5⟩
  · by_cases e : s = ns
    · rw [e, ms_n, ms_n, ms_n, ms_n, ms_n, ms_n, ms_n, ms_n]
      refine ⟨by rw [if_pos rfl]; omega, by rw [if_neg (by omega), if_pos rfl]; omega, ?_, ?_, ?_, ?_, ?_⟩
      · rw [if_neg (by omega), if_neg (by omega), if_pos rfl, if_neg (by omega), if_neg (by omega), if_neg (by omega), if_pos rfl]; omega
      · rw [if_neg (by omega), if_neg (by omega), if_neg (by omega), if_neg (by omega), if_pos rfl]; omega
      · rw [if_neg (by omega), if_neg (by omega), if_neg (by omega), if_neg (by omega), if_neg (by omega), if_pos rfl]
        by_cases q : told / 10 = 2
        · rw [if_pos q]; have q2 := hf q; exact (g2 f q2.1.1 q2.1.2).2.2.2.2.1
        · rw [if_neg q]; omega
      · rw [if_neg (by omega), if_neg (by omega), if_neg (by omega), if_neg (by omega), if_neg (by omega), if_neg (by omega), if_pos rfl]
        by_cases q : told / 10 = 2
        · rw [if_pos q]; have q2 := hf q; omega
        · rw [if_neg q]; omega
      · rw [if_neg (by omega), if_neg (by omega), if_neg (by omega), if_neg (by omega), if_neg (by omega), if_neg (by omega), if_neg (by omega), if_pos rfl]; omega
    · obtain ⟨a1, a2, a3, a4, a5, a6, a7⟩ := g2 s s0 (by omega)
      rw [ms_ne e (Or.inl (by omega)), ms_ne e (Or.inl (by omega)), ms_ne e (Or.inl (by omega)), ms_ne e (Or.inl (by omega)), ms_ne e (Or.inl (by omega)), ms_ne e (Or.inl (by omega)), ms_ne (k := 7) e (Or.inl (by omega))]
      refine ⟨a1, a2, a3, a4, a5, ?_, a7⟩
      by_cases q : told / 10 = 2 ∧ s = f
      · rw [q.2, ms_f (by omega) q.1]; omega
      · rw [ms_ne e (by omega)]; omega
  · have hm6 : ∀ s, 0 ≤ s → s < ns → moreS D ns told sp sv f 6 s = if told / 10 = 2 ∧ s = f then ns else D 6 s := fun s s0 s1 => by
      by_cases q : told / 10 = 2 ∧ s = f
      · rw [if_pos q, q.2, ms_f (by omega) q.1]
      · rw [if_neg q, ms_ne (by omega) (by omega)]
    have hm0 : ∀ s, s ≠ ns → moreS D ns told sp sv f 0 s = D 0 s := fun s s1 => ms_ne s1 (Or.inl (by omega))
    have h6n : moreS D ns told sp sv f 6 ns = if told / 10 = 2 then f else -1 := by rw [ms_n, if_neg (by omega), if_neg (by omega), if_neg (by omega), if_neg (by omega), if_neg (by omega), if_neg (by omega), if_pos rfl]
    have h0n : moreS D ns told sp sv f 0 ns = told / 10 := by rw [ms_n, if_pos rfl]
    by_cases e : s = ns
    · rw [e, h6n, h0n]
      by_cases q : told / 10 = 2
      · have q2 := hf q
        rw [if_pos q, ms_f (by omega) q, hm0 f (by omega)]
        omega
      · rw [if_neg q]; omega
    · rw [hm6 s s0 (by omega), hm0 s e]
      by_cases q : told / 10 = 2 ∧ s = f
      · have q2 := hf q.1
        rw [if_pos q, h6n, h0n, if_pos q.1, q.2]
        omega
      · have a := g3 s s0 (by omega)
        have b := (g2 s s0 (by omega)).2.2.2.2.2.1
        rw [if_neg q]
        refine ⟨fun z => ?_, a.2⟩
        have c := a.1 z
        have d : D 6 s ≠ f ∨ told / 10 ≠ 2 := by
          by_cases r : told / 10 = 2
          · left; intro y; have q2 := hf r; rw [y] at c; omega
          · exact Or.inr r
        rw [hm6 _ z b.2, if_neg (by omega), hm0 _ (by omega)]
        exact c
  · rw [ms_hi (by omega), ms_hi (by omega), ms_hi (by omega), ms_hi (by omega)]; exact g4 u u0 u1
theorem DC.stop {σ D : sto} {ns nv told sp sv f : Int} {σ' : sto} (h : DC σ D ns nv) (n0 : 0 ≤ ns) (hn : ns < 12)
    (h9 : σ' 9 0 = ns + 1) (hN : σ' 10 ns = told / 10 ∧ σ' 11 ns = told % 10 ∧ σ' 12 ns = sp / 1000 ∧ σ' 13 ns = sp % 1000 ∧ σ' 14 ns = sv / 100 ∧ σ' 15 ns = (if told / 10 = 2 then D 5 f else sv % 100) ∧ σ' 16 ns = (if told / 10 = 2 then f else -1) ∧ σ' 17 ns = 1)
    (hF : told / 10 = 2 → σ' 16 f = ns) (hE : ∀ c i : Int, (c = 4 ∨ 10 ≤ c ∧ c ≤ 22) → (17 < c ∨ c < 10 ∨ i ≠ ns) → (c ≠ 16 ∨ told / 10 ≠ 2 ∨ i ≠ f) → σ' c i = σ c i) : DC σ' (moreS D ns told sp sv f) (ns + 1) nv := by
  obtain ⟨g1, g2, g3, g4, g5, g6⟩ := h
  obtain ⟨b0, b1, b2, b3, b4, b5, b6, b7⟩ := hN
  refine ⟨h9, by rw [hE 18 0 (by omega) (by omega) (by omega)]; exact g2, fun s s0 s1 => ?_, fun s s0 s1 => ?_, fun u u0 u1 => ?_, fun i i0 i1 => ?_⟩
  · by_cases e : s = ns
    · rw [e, b0, b1, b2, b3, b4, b6, b7, ms_n, ms_n, ms_n, ms_n, ms_n, ms_n, ms_n]
      refine ⟨by rw [if_pos rfl], by rw [if_neg (by omega), if_pos rfl], ?_, ?_, ?_, ?_, ?_⟩
      · rw [if_neg (by omega), if_neg (by omega), if_pos rfl]
      · rw [if_neg (by omega), if_neg (by omega), if_neg (by omega), if_pos rfl]
      · rw [if_neg (by omega), if_neg (by omega), if_neg (by omega), if_neg (by omega), if_pos rfl]
      · rw [if_neg (show ¬ (6 : Int) = 0 by omega), if_neg (show ¬ (6 : Int) = 1 by omega), if_neg (show ¬ (6 : Int) = 2 by omega), if_neg (show ¬ (6 : Int) = 3 by omega), if_neg (show ¬ (6 : Int) = 4 by omega), if_neg (show ¬ (6 : Int) = 5 by omega), if_pos (show (6 : Int) = 6 from rfl)]
      · rw [if_neg (by omega), if_neg (by omega), if_neg (by omega), if_neg (by omega), if_neg (by omega), if_neg (by omega), if_neg (by omega), if_pos rfl]
    · obtain ⟨a1, a2, a3, a4, a5, a6, a7⟩ := g3 s s0 s1
      rw [hE 10 s (by omega) (by omega) (by omega), hE 11 s (by omega) (by omega) (by omega), hE 12 s (by omega) (by omega) (by omega), hE 13 s (by omega) (by omega) (by omega), hE 14 s (by omega) (by omega) (by omega), hE 17 s (by omega) (by omega) (by omega),
        ms_ne e (Or.inl (by omega)), ms_ne e (Or.inl (by omega)), ms_ne e (Or.inl (by omega)), ms_ne e (Or.inl (by omega)), ms_ne e (Or.inl (by omega)), ms_ne (k := 7) e (Or.inl (by omega))]
      refine ⟨a1, a2, a3, a4, a5, ?_, a7⟩
      by_cases q : told / 10 = 2 ∧ s = f
      · rw [q.2, ms_f (by omega) q.1, hF q.1]
      · rw [ms_ne e (by omega), hE 16 s (by omega) (by omega) (by omega)]; exact a6
  · by_cases e : s = ns
    · rw [e, b5, ms_n, if_neg (show ¬ (5 : Int) = 0 by omega), if_neg (show ¬ (5 : Int) = 1 by omega), if_neg (show ¬ (5 : Int) = 2 by omega), if_neg (show ¬ (5 : Int) = 3 by omega), if_neg (show ¬ (5 : Int) = 4 by omega), if_pos (show (5 : Int) = 5 from rfl)]
    · rw [hE 15 s (by omega) (by omega) (by omega), ms_ne e (Or.inl (by omega))]; exact g4 s s0 (by omega)
  · rw [hE 19 _ (by omega) (by omega) (by omega), hE 20 _ (by omega) (by omega) (by omega), hE 21 _ (by omega) (by omega) (by omega), hE 22 _ (by omega) (by omega) (by omega), ms_hi (by omega), ms_hi (by omega), ms_hi (by omega), ms_hi (by omega)]; exact g5 u u0 u1
  · rw [ms_hi (by omega), hE 4 _ (by omega) (by omega) (by omega)]; exact g6 i i0 i1
theorem why_stop {D : sto} {ns nv told sp sv f v : Int} {P : pln} (hP : PO ns nv P) (v0 : 0 ≤ v) (v1 : v < 3) (hf : told / 10 = 2 → f ∉ al3 P) : whyOf (moreS D ns told sp sv f) v (P v) = whyOf D v (P v) := by
  refine why_cg (fun k s k0 k1 hs => ?_) (ms_hi (by omega)) (ms_hi (by omega)) (ms_hi (by omega)) (fun i => ms_hi (by omega))
  have hin := mem_al3.mpr ⟨v, v0, v1, hs⟩
  have h1 := hP.2.1 s hin
  refine ms_ne (by omega) ?_
  by_cases z : told / 10 = 2
  · right; right; intro y; rw [y] at hin; exact hf z hin
  · exact Or.inr (Or.inl z)
theorem cv_stop {σ : sto} {g : G} {B told sp sv f : Int} (hI : OI σ g B) (hB : B ≤ 3998) (hk : g.ok) (h_told : inR told) (h_sp : inR sp) (h_sv : inR sv) (h_f : inR f) : CI M_Van_stop 14 [vR 0, vI told, vI sp, vI sv, vI f] σ (PV (sp_stop g told sp sv f) σ B) := by
  obtain ⟨h1, hT, hQ, hU, h09, hrn, h010, hrf⟩ := id hI
  obtain ⟨k1, k2, k3, k4, k5, k6⟩ := id hk
  have hn := k1.1
  have hRV := k2.rv hn.1 hn.2.1
  have hcc := h1
  have k107 : 0 ≤ told → told % 10 < 8 → (told / 10 = 2 → (0 ≤ f ∧ f < g.ns) ∧ g.D 0 f = 1 ∧ g.D 6 f = -1) → (told / 10 = 2 → f ∉ al3 g.P) → Run M_Van_stop (rxI 14 (PV (sp_stop g told sp sv f) σ B)) (0, 0) 107 [vR 0, vI told, vI sp, vI sv, vI f, vI (told / 10), vU] [] (sg σ) := by
    intro t0 t1 hfd hfp
    refine r_iload 5 d_Van_stop_107 rfl ?_
    refine r_iconst d_Van_stop_109 ?_
    refine r_icmp_gt 129 d_Van_stop_110 rfl (by omega) (by omega) (fun h110 => ?_) (fun h110 => ?_)
    · refine r_aload_n 0 d_Van_stop_129 rfl rfl ?_
      refine r_bipush d_Van_stop_130 (by decide) ?_
      refine r_cVI 7 d_Van_stop_132 lk_Van_74 vc_Van_refuse (ct_refuse (by omega)) rfl rfl rfl rfl ⟨Nat.le_of_ble_eq_true rfl, Nat.le_of_ble_eq_true rfl⟩ ⟨Nat.zero_le _, Nat.zero_le _⟩ (Nat.le_of_ble_eq_true rfl) (fun r132 s132 q132 => ?_)
      have q := q132
      refine q_iret d_Van_stop_135 rfl ?_
      exact fin_no hI (by omega) hk VF.rf q (by have hvf : told / 10 = 2 → vanOf g.P f = -1 := (fun z => vanOf_no.mpr (hfp z)); unfold sp_stop; (repeat (first | rw [if_pos (by omega)] | rw [if_neg (by omega)])); (try rfl))
    · refine r_iload_n 2 d_Van_stop_113 rfl rfl ?_
      refine r_cSI d_Van_stop_114 lk_Van_128 sc_Van_isSpan (ct_isSpan (by omega)) rfl rfl ⟨Nat.le_of_ble_eq_true rfl, Nat.le_of_ble_eq_true rfl⟩ ⟨Nat.zero_le _, Nat.zero_le _⟩ (Nat.le_of_ble_eq_true rfl) (fun r114 s114 q114 => ?_)
      obtain ⟨q114, hs114⟩ := q114
      have hs114 := hs114.symm
      subst hs114
      refine r_if_eq 129 d_Van_stop_117 rfl (by omega) (fun h117 => ?_) (fun h117 => ?_)
      · refine r_aload_n 0 d_Van_stop_129 rfl rfl ?_
        refine r_bipush d_Van_stop_130 (by decide) ?_
        refine r_cVI 7 d_Van_stop_132 lk_Van_74 vc_Van_refuse (ct_refuse (by omega)) rfl rfl rfl rfl ⟨Nat.le_of_ble_eq_true rfl, Nat.le_of_ble_eq_true rfl⟩ ⟨Nat.zero_le _, Nat.zero_le _⟩ (Nat.le_of_ble_eq_true rfl) (fun r132 s132 q132 => ?_)
        have q := q132
        refine q_iret d_Van_stop_135 rfl ?_
        exact fin_no hI (by omega) hk VF.rf q (by have hvf : told / 10 = 2 → vanOf g.P f = -1 := (fun z => vanOf_no.mpr (hfp z)); unfold sp_stop; (repeat (first | rw [if_pos (by omega)] | rw [if_neg (by omega)])); (try rfl))
      · refine r_iload_n 3 d_Van_stop_120 rfl rfl ?_
        refine r_iload 5 d_Van_stop_121 rfl ?_
        refine r_cSI d_Van_stop_123 lk_Van_131 sc_Van_isService (ct_isService (by omega) (by omega)) rfl rfl ⟨Nat.le_of_ble_eq_true rfl, Nat.le_of_ble_eq_true rfl⟩ ⟨Nat.zero_le _, Nat.zero_le _⟩ (Nat.le_of_ble_eq_true rfl) (fun r123 s123 q123 => ?_)
        obtain ⟨q123, hs123⟩ := q123
        have hs123 := hs123.symm
        subst hs123
        refine r_if_ne 136 d_Van_stop_126 rfl (by omega) (fun h126 => ?_) (fun h126 => ?_)
        · refine r_aload_n 0 d_Van_stop_136 rfl rfl ?_
          refine r_getR 9 d_Van_stop_137 fk_Van_37 rfl rfl rfl (by decide) ?_
          refine r_getI 0 d_Van_stop_140 fk_Van_134 rfl rfl rfl ?_
          refine r_bipush d_Van_stop_143 (by decide) ?_
          rw [hcc.1]
          refine r_icmp_lt 155 d_Van_stop_145 rfl (by omega) (by omega) (fun h145 => ?_) (fun h145 => ?_)
          · refine r_aload_n 0 d_Van_stop_155 rfl rfl ?_
            refine r_getR 9 d_Van_stop_156 fk_Van_37 rfl rfl rfl (by decide) ?_
            refine r_iload 5 d_Van_stop_159 rfl ?_
            refine r_iload_n 1 d_Van_stop_161 rfl rfl ?_
            refine r_bipush d_Van_stop_162 (by decide) ?_
            refine r_irem d_Van_stop_164 (by omega) (by omega) ?_
            refine r_iload_n 3 d_Van_stop_165 rfl rfl ?_
            refine r_cVI 3 d_Van_stop_166 lk_Van_136 vc_Stops_add (ct_sadd hcc.1 (by omega) (by omega) (by omega)) rfl rfl rfl rfl ⟨Nat.le_of_ble_eq_true rfl, Nat.le_of_ble_eq_true rfl⟩ ⟨Nat.zero_le _, Nat.zero_le _⟩ (Nat.le_of_ble_eq_true rfl) (fun r166 s166 q166 => ?_)
            obtain ⟨e166, hs166⟩ := q166
            subst hs166 e166
            refine r_istore 6 d_Van_stop_169 (by decide) rfl ?_
            refine r_aload_n 0 d_Van_stop_171 rfl rfl ?_
            refine r_getR 9 d_Van_stop_172 fk_Van_37 rfl rfl rfl (by decide) ?_
            refine r_iload 6 d_Van_stop_175 rfl ?_
            refine r_iload_n 2 d_Van_stop_177 rfl rfl ?_
            refine r_cVV 3 d_Van_stop_178 lk_Van_139 vc_Stops_setSpan (ct_setSpan (by omega) (by omega) (by omega)) rfl rfl rfl rfl ⟨Nat.le_of_ble_eq_true rfl, Nat.le_of_ble_eq_true rfl⟩ ⟨Nat.zero_le _, Nat.zero_le _⟩ (Nat.le_of_ble_eq_true rfl) (fun s178 q178 => ?_)
            subst q178
            refine r_iload 5 d_Van_stop_181 rfl ?_
            refine r_iconst d_Van_stop_183 ?_
            refine r_icmp_ne 198 d_Van_stop_184 rfl (by omega) (by omega) (fun h184 => ?_) (fun h184 => ?_)
            · refine r_aload_n 0 d_Van_stop_198 rfl rfl ?_
              refine r_getR 45 d_Van_stop_199 fk_Van_52 rfl rfl rfl (by decide) ?_
              refine r_cVV 0 d_Van_stop_202 lk_Van_99 vc_Past_forget ct_forget rfl rfl rfl rfl ⟨Nat.le_of_ble_eq_true rfl, Nat.le_of_ble_eq_true rfl⟩ ⟨Nat.zero_le _, Nat.zero_le _⟩ (Nat.le_of_ble_eq_true rfl) (fun s202 q202 => ?_)
              subst q202
              refine r_iload 6 d_Van_stop_205 rfl ?_
              refine q_iret d_Van_stop_207 rfl ?_
              have hDC : DC (wr (wr (wr (wr (wr (wr (wr (wr (wr σ 9 0 (g.ns + 1)) 10 g.ns (told / 10)) 11 g.ns (told % 10)) 14 g.ns (sv / 100)) 15 g.ns (sv % 100)) 16 g.ns (-1)) 17 g.ns 1) 12 g.ns (sp / 1000)) 13 g.ns (sp % 1000)) (moreS g.D g.ns told sp sv f) (g.ns + 1) g.nv := h1.stop hn.1 (by omega) (by (repeat (first | rw [wr_eq] | rw [wr_ne (by omega)]))) ⟨by (repeat (first | rw [wr_eq] | rw [wr_ne (by omega)])), by (repeat (first | rw [wr_eq] | rw [wr_ne (by omega)])), by (repeat (first | rw [wr_eq] | rw [wr_ne (by omega)])), by (repeat (first | rw [wr_eq] | rw [wr_ne (by omega)])), by (repeat (first | rw [wr_eq] | rw [wr_ne (by omega)])), by rw [if_neg (by omega)]; (repeat (first | rw [wr_eq] | rw [wr_ne (by omega)])), by rw [if_neg (by omega)]; (repeat (first | rw [wr_eq] | rw [wr_ne (by omega)])), by (repeat (first | rw [wr_eq] | rw [wr_ne (by omega)]))⟩ (fun z => by first | (exfalso; omega) | (repeat (first | rw [wr_eq] | rw [wr_ne (by omega)]))) (fun c i z1 z2 z3 => by (repeat (first | rw [wr_eq] | rw [wr_ne (by omega)])))
              have hKF : KF σ (wr (wr (wr (wr (wr (wr (wr (wr (wr σ 9 0 (g.ns + 1)) 10 g.ns (told / 10)) 11 g.ns (told % 10)) 14 g.ns (sv / 100)) 15 g.ns (sv % 100)) 16 g.ns (-1)) 17 g.ns 1) 12 g.ns (sp / 1000)) 13 g.ns (sp % 1000)) := fun c i z => by (repeat (first | rw [wr_eq] | rw [wr_ne (by omega)]))
              refine fin_eq (fin_data hI (show B ≤ B + 2 by omega) hk hKF hDC ((hT.cg (fun i => ms_hi (by omega))).keep (fun c i z => by (repeat (first | rw [wr_eq] | rw [wr_ne (by omega)])))) (k1.stop (by omega) (by omega) (by omega) (by omega) (by omega) (by omega) (by omega) (by omega) hfd) ⟨k2.1, fun s z => by have := k2.2.1 s z; omega, k2.2.2⟩ (fun v v0 v1 => ?_)) (by have hvf : told / 10 = 2 → vanOf g.P f = -1 := (fun z => vanOf_no.mpr (hfp z)); unfold sp_stop; (repeat (first | rw [if_pos (by omega)] | rw [if_neg (by omega)])); (try rfl))
              rw [why_stop k2 v0 (by omega) hfp]
              exact k3 v v0 v1
            · refine r_aload_n 0 d_Van_stop_187 rfl rfl ?_
              refine r_getR 9 d_Van_stop_188 fk_Van_37 rfl rfl rfl (by decide) ?_
              refine r_iload 4 d_Van_stop_191 rfl ?_
              refine r_iload 6 d_Van_stop_193 rfl ?_
              refine r_cVV 3 d_Van_stop_195 lk_Van_142 vc_Stops_join (ct_join (by omega) (by omega) (by omega) (by omega)) rfl rfl rfl rfl ⟨Nat.le_of_ble_eq_true rfl, Nat.le_of_ble_eq_true rfl⟩ ⟨Nat.zero_le _, Nat.zero_le _⟩ (Nat.le_of_ble_eq_true rfl) (fun s195 q195 => ?_)
              subst q195
              refine r_aload_n 0 d_Van_stop_198 rfl rfl ?_
              refine r_getR 45 d_Van_stop_199 fk_Van_52 rfl rfl rfl (by decide) ?_
              refine r_cVV 0 d_Van_stop_202 lk_Van_99 vc_Past_forget ct_forget rfl rfl rfl rfl ⟨Nat.le_of_ble_eq_true rfl, Nat.le_of_ble_eq_true rfl⟩ ⟨Nat.zero_le _, Nat.zero_le _⟩ (Nat.le_of_ble_eq_true rfl) (fun s202 q202 => ?_)
              subst q202
              refine r_iload 6 d_Van_stop_205 rfl ?_
              refine q_iret d_Van_stop_207 rfl ?_
              have hDC : DC (wr (wr (wr (wr (wr (wr (wr (wr (wr (wr (wr (wr σ 9 0 (g.ns + 1)) 10 g.ns (told / 10)) 11 g.ns (told % 10)) 14 g.ns (sv / 100)) 15 g.ns (sv % 100)) 16 g.ns (-1)) 17 g.ns 1) 12 g.ns (sp / 1000)) 13 g.ns (sp % 1000)) 16 f g.ns) 16 g.ns f) 15 g.ns ((wr (wr (wr (wr (wr (wr (wr (wr (wr σ 9 0 (g.ns + 1)) 10 g.ns (told / 10)) 11 g.ns (told % 10)) 14 g.ns (sv / 100)) 15 g.ns (sv % 100)) 16 g.ns (-1)) 17 g.ns 1) 12 g.ns (sp / 1000)) 13 g.ns (sp % 1000)) 15 f)) (moreS g.D g.ns told sp sv f) (g.ns + 1) g.nv := h1.stop hn.1 (by omega) (by (repeat (first | rw [wr_eq] | rw [wr_ne (by omega)]))) ⟨by (repeat (first | rw [wr_eq] | rw [wr_ne (by omega)])), by (repeat (first | rw [wr_eq] | rw [wr_ne (by omega)])), by (repeat (first | rw [wr_eq] | rw [wr_ne (by omega)])), by (repeat (first | rw [wr_eq] | rw [wr_ne (by omega)])), by (repeat (first | rw [wr_eq] | rw [wr_ne (by omega)])), by rw [if_pos (by omega)]; (repeat (first | rw [wr_eq] | rw [wr_ne (by omega)])); exact h1.am (by omega) (by omega), by rw [if_pos (by omega)]; (repeat (first | rw [wr_eq] | rw [wr_ne (by omega)])), by (repeat (first | rw [wr_eq] | rw [wr_ne (by omega)]))⟩ (fun z => by first | (exfalso; omega) | (repeat (first | rw [wr_eq] | rw [wr_ne (by omega)]))) (fun c i z1 z2 z3 => by (repeat (first | rw [wr_eq] | rw [wr_ne (by omega)])))
              have hKF : KF σ (wr (wr (wr (wr (wr (wr (wr (wr (wr (wr (wr (wr σ 9 0 (g.ns + 1)) 10 g.ns (told / 10)) 11 g.ns (told % 10)) 14 g.ns (sv / 100)) 15 g.ns (sv % 100)) 16 g.ns (-1)) 17 g.ns 1) 12 g.ns (sp / 1000)) 13 g.ns (sp % 1000)) 16 f g.ns) 16 g.ns f) 15 g.ns ((wr (wr (wr (wr (wr (wr (wr (wr (wr σ 9 0 (g.ns + 1)) 10 g.ns (told / 10)) 11 g.ns (told % 10)) 14 g.ns (sv / 100)) 15 g.ns (sv % 100)) 16 g.ns (-1)) 17 g.ns 1) 12 g.ns (sp / 1000)) 13 g.ns (sp % 1000)) 15 f)) := fun c i z => by (repeat (first | rw [wr_eq] | rw [wr_ne (by omega)]))
              refine fin_eq (fin_data hI (show B ≤ B + 2 by omega) hk hKF hDC ((hT.cg (fun i => ms_hi (by omega))).keep (fun c i z => by (repeat (first | rw [wr_eq] | rw [wr_ne (by omega)])))) (k1.stop (by omega) (by omega) (by omega) (by omega) (by omega) (by omega) (by omega) (by omega) hfd) ⟨k2.1, fun s z => by have := k2.2.1 s z; omega, k2.2.2⟩ (fun v v0 v1 => ?_)) (by have hvf : told / 10 = 2 → vanOf g.P f = -1 := (fun z => vanOf_no.mpr (hfp z)); unfold sp_stop; (repeat (first | rw [if_pos (by omega)] | rw [if_neg (by omega)])); (try rfl))
              rw [why_stop k2 v0 (by omega) hfp]
              exact k3 v v0 v1
          · refine r_aload_n 0 d_Van_stop_148 rfl rfl ?_
            refine r_bipush d_Van_stop_149 (by decide) ?_
            refine r_cVI 7 d_Van_stop_151 lk_Van_74 vc_Van_refuse (ct_refuse (by omega)) rfl rfl rfl rfl ⟨Nat.le_of_ble_eq_true rfl, Nat.le_of_ble_eq_true rfl⟩ ⟨Nat.zero_le _, Nat.zero_le _⟩ (Nat.le_of_ble_eq_true rfl) (fun r151 s151 q151 => ?_)
            have q := q151
            refine q_iret d_Van_stop_154 rfl ?_
            exact fin_no hI (by omega) hk VF.rf q (by have hvf : told / 10 = 2 → vanOf g.P f = -1 := (fun z => vanOf_no.mpr (hfp z)); unfold sp_stop; (repeat (first | rw [if_pos (by omega)] | rw [if_neg (by omega)])); (try rfl))
        · refine r_aload_n 0 d_Van_stop_129 rfl rfl ?_
          refine r_bipush d_Van_stop_130 (by decide) ?_
          refine r_cVI 7 d_Van_stop_132 lk_Van_74 vc_Van_refuse (ct_refuse (by omega)) rfl rfl rfl rfl ⟨Nat.le_of_ble_eq_true rfl, Nat.le_of_ble_eq_true rfl⟩ ⟨Nat.zero_le _, Nat.zero_le _⟩ (Nat.le_of_ble_eq_true rfl) (fun r132 s132 q132 => ?_)
          have q := q132
          refine q_iret d_Van_stop_135 rfl ?_
          exact fin_no hI (by omega) hk VF.rf q (by have hvf : told / 10 = 2 → vanOf g.P f = -1 := (fun z => vanOf_no.mpr (hfp z)); unfold sp_stop; (repeat (first | rw [if_pos (by omega)] | rw [if_neg (by omega)])); (try rfl))
  refine ci_of [vR 0, vI told, vI sp, vI sv, vI f, vU, vU] fy_Van_stop.1 rfl (Nat.le_of_ble_eq_true rfl) ?_
  refine r_iload_n 1 d_Van_stop_0 rfl rfl ?_
  refine r_if_lt 14 d_Van_stop_1 rfl (by omega) (fun h1 => ?_) (fun h1 => ?_)
  · refine r_aload_n 0 d_Van_stop_14 rfl rfl ?_
    refine r_bipush d_Van_stop_15 (by decide) ?_
    refine r_cVI 7 d_Van_stop_17 lk_Van_74 vc_Van_refuse (ct_refuse (by omega)) rfl rfl rfl rfl ⟨Nat.le_of_ble_eq_true rfl, Nat.le_of_ble_eq_true rfl⟩ ⟨Nat.zero_le _, Nat.zero_le _⟩ (Nat.le_of_ble_eq_true rfl) (fun r17 s17 q17 => ?_)
    have q := q17
    refine q_iret d_Van_stop_20 rfl ?_
    exact fin_no hI (by omega) hk VF.rf q (by unfold sp_stop; (repeat (first | rw [if_pos (by omega)] | rw [if_neg (by omega)])); (try rfl))
  · refine r_iload_n 1 d_Van_stop_4 rfl rfl ?_
    refine r_bipush d_Van_stop_5 (by decide) ?_
    refine r_irem d_Van_stop_7 (by omega) (by omega) ?_
    refine r_cSI d_Van_stop_8 lk_Van_70 sc_Van_isPlace (ct_isPlace (by omega)) rfl rfl ⟨Nat.le_of_ble_eq_true rfl, Nat.le_of_ble_eq_true rfl⟩ ⟨Nat.zero_le _, Nat.zero_le _⟩ (Nat.le_of_ble_eq_true rfl) (fun r8 s8 q8 => ?_)
    obtain ⟨q8, hs8⟩ := q8
    have hs8 := hs8.symm
    subst hs8
    refine r_if_ne 21 d_Van_stop_11 rfl (by omega) (fun h11 => ?_) (fun h11 => ?_)
    · refine r_iload_n 1 d_Van_stop_21 rfl rfl ?_
      refine r_bipush d_Van_stop_22 (by decide) ?_
      refine r_idiv d_Van_stop_24 (by omega) (by omega) ?_
      refine r_istore 5 d_Van_stop_25 (by decide) rfl ?_
      refine r_iload 5 d_Van_stop_27 rfl ?_
      refine r_iconst d_Van_stop_29 ?_
      refine r_icmp_ne 107 d_Van_stop_30 rfl (by omega) (by omega) (fun h30 => ?_) (fun h30 => ?_)
      · refine k107 (by omega) (by omega) (fun z => ?_) (fun z => ?_)
        · omega
        · exact vanOf_no.mp (by omega)
      · refine r_aload_n 0 d_Van_stop_33 rfl rfl ?_
        refine r_getR 9 d_Van_stop_34 fk_Van_37 rfl rfl rfl (by decide) ?_
        refine r_iload 4 d_Van_stop_37 rfl ?_
        refine r_cVI 3 d_Van_stop_39 lk_Van_114 vc_Stops_has (ct_hasS hcc k1 (by omega)) rfl rfl rfl rfl ⟨Nat.le_of_ble_eq_true rfl, Nat.le_of_ble_eq_true rfl⟩ ⟨Nat.zero_le _, Nat.zero_le _⟩ (Nat.le_of_ble_eq_true rfl) (fun r39 s39 q39 => ?_)
        obtain ⟨q39, hs39⟩ := q39
        have hs39 := hs39.symm
        subst hs39
        refine r_if_ne 52 d_Van_stop_42 rfl (by omega) (fun h42 => ?_) (fun h42 => ?_)
        · have hat := hcc.at (s := f) (by omega) (by omega)
          have hdf := k1.2.1 f (by omega) (by omega)
          have hvo := vanOf_in g.P f
          refine r_aload_n 0 d_Van_stop_52 rfl rfl ?_
          refine r_getR 9 d_Van_stop_53 fk_Van_37 rfl rfl rfl (by decide) ?_
          refine r_getR 10 d_Van_stop_56 fk_Van_119 rfl rfl rfl (by decide) ?_
          refine r_iload 4 d_Van_stop_59 rfl ?_
          refine r_iald 12 d_Van_stop_61 rfl rfl (by omega) (by omega) ?_
          refine r_iconst d_Van_stop_62 ?_
          rw [hat.1]
          refine r_icmp_eq 73 d_Van_stop_63 rfl (by omega) (by omega) (fun h63 => ?_) (fun h63 => ?_)
          · refine r_aload_n 0 d_Van_stop_73 rfl rfl ?_
            refine r_getR 9 d_Van_stop_74 fk_Van_37 rfl rfl rfl (by decide) ?_
            refine r_getR 16 d_Van_stop_77 fk_Van_122 rfl rfl rfl (by decide) ?_
            refine r_iload 4 d_Van_stop_80 rfl ?_
            refine r_iald 12 d_Van_stop_82 rfl rfl (by omega) (by omega) ?_
            refine r_iconst d_Van_stop_83 ?_
            rw [hat.2.2.2.2.2.1]
            refine r_icmp_ne 100 d_Van_stop_84 rfl (by omega) (by omega) (fun h84 => ?_) (fun h84 => ?_)
            · refine r_aload_n 0 d_Van_stop_100 rfl rfl ?_
              refine r_bipush d_Van_stop_101 (by decide) ?_
              refine r_cVI 7 d_Van_stop_103 lk_Van_74 vc_Van_refuse (ct_refuse (by omega)) rfl rfl rfl rfl ⟨Nat.le_of_ble_eq_true rfl, Nat.le_of_ble_eq_true rfl⟩ ⟨Nat.zero_le _, Nat.zero_le _⟩ (Nat.le_of_ble_eq_true rfl) (fun r103 s103 q103 => ?_)
              have q := q103
              refine q_iret d_Van_stop_106 rfl ?_
              exact fin_no hI (by omega) hk VF.rf q (by unfold sp_stop; (repeat (first | rw [if_pos (by omega)] | rw [if_neg (by omega)])); (try rfl))
            · refine r_aload_n 0 d_Van_stop_87 rfl rfl ?_
              refine r_getR 39 d_Van_stop_88 fk_Van_46 rfl rfl rfl (by decide) ?_
              refine r_iload 4 d_Van_stop_91 rfl ?_
              refine r_cVP 1 d_Van_stop_93 lk_Van_125 vc_Plan_vanWith (ct_vanWith pl39 hQ (by omega)) rfl rfl rfl rfl ⟨Nat.le_of_ble_eq_true rfl, Nat.le_of_ble_eq_true rfl⟩ ⟨Nat.zero_le _, Nat.zero_le _⟩ (Nat.le_of_ble_eq_true rfl) ?_
              refine r_iconst d_Van_stop_96 ?_
              refine r_icmp_eq 107 d_Van_stop_97 rfl (by omega) (by omega) (fun h97 => ?_) (fun h97 => ?_)
              · refine k107 (by omega) (by omega) (fun z => ?_) (fun z => ?_)
                · omega
                · exact vanOf_no.mp (by omega)
              · refine r_aload_n 0 d_Van_stop_100 rfl rfl ?_
                refine r_bipush d_Van_stop_101 (by decide) ?_
                refine r_cVI 7 d_Van_stop_103 lk_Van_74 vc_Van_refuse (ct_refuse (by omega)) rfl rfl rfl rfl ⟨Nat.le_of_ble_eq_true rfl, Nat.le_of_ble_eq_true rfl⟩ ⟨Nat.zero_le _, Nat.zero_le _⟩ (Nat.le_of_ble_eq_true rfl) (fun r103 s103 q103 => ?_)
                have q := q103
                refine q_iret d_Van_stop_106 rfl ?_
                exact fin_no hI (by omega) hk VF.rf q (by unfold sp_stop; (repeat (first | rw [if_pos (by omega)] | rw [if_neg (by omega)])); (try rfl))
          · refine r_aload_n 0 d_Van_stop_66 rfl rfl ?_
            refine r_bipush d_Van_stop_67 (by decide) ?_
            refine r_cVI 7 d_Van_stop_69 lk_Van_74 vc_Van_refuse (ct_refuse (by omega)) rfl rfl rfl rfl ⟨Nat.le_of_ble_eq_true rfl, Nat.le_of_ble_eq_true rfl⟩ ⟨Nat.zero_le _, Nat.zero_le _⟩ (Nat.le_of_ble_eq_true rfl) (fun r69 s69 q69 => ?_)
            have q := q69
            refine q_iret d_Van_stop_72 rfl ?_
            exact fin_no hI (by omega) hk VF.rf q (by unfold sp_stop; (repeat (first | rw [if_pos (by omega)] | rw [if_neg (by omega)])); (try rfl))
        · refine r_aload_n 0 d_Van_stop_45 rfl rfl ?_
          refine r_bipush d_Van_stop_46 (by decide) ?_
          refine r_cVI 7 d_Van_stop_48 lk_Van_74 vc_Van_refuse (ct_refuse (by omega)) rfl rfl rfl rfl ⟨Nat.le_of_ble_eq_true rfl, Nat.le_of_ble_eq_true rfl⟩ ⟨Nat.zero_le _, Nat.zero_le _⟩ (Nat.le_of_ble_eq_true rfl) (fun r48 s48 q48 => ?_)
          have q := q48
          refine q_iret d_Van_stop_51 rfl ?_
          exact fin_no hI (by omega) hk VF.rf q (by unfold sp_stop; (repeat (first | rw [if_pos (by omega)] | rw [if_neg (by omega)])); (try rfl))
    · refine r_aload_n 0 d_Van_stop_14 rfl rfl ?_
      refine r_bipush d_Van_stop_15 (by decide) ?_
      refine r_cVI 7 d_Van_stop_17 lk_Van_74 vc_Van_refuse (ct_refuse (by omega)) rfl rfl rfl rfl ⟨Nat.le_of_ble_eq_true rfl, Nat.le_of_ble_eq_true rfl⟩ ⟨Nat.zero_le _, Nat.zero_le _⟩ (Nat.le_of_ble_eq_true rfl) (fun r17 s17 q17 => ?_)
      have q := q17
      refine q_iret d_Van_stop_20 rfl ?_
      exact fin_no hI (by omega) hk VF.rf q (by unfold sp_stop; (repeat (first | rw [if_pos (by omega)] | rw [if_neg (by omega)])); (try rfl))
