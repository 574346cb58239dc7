-- WHERE THE LAW STARTS: a fresh office on both sides (written by wip/whole/gen_law.py)
def s0 : sto := fun c i => ini c.toNat i.toNat
theorem s0_z {c i : Int} (h : c.toNat ≠ 0 ∧ c.toNat ≠ 3 ∧ c.toNat ≠ 169) : s0 c i = 0 := by
  unfold s0 ini
  rw [if_neg h.1, if_neg h.2.1, if_neg h.2.2]
theorem pent_s0 {X : cx} {k : Nat} : pent X (fun _ _ => false) k = ent X s0 k := by
  unfold pent ent
  split
  · congr 2
  · split <;> rfl
theorem pg_s0 {X : cx} {H : Heap} (h : pg (fun _ _ => false) 198 X H) : sg s0 X H := by
  unfold pg at h
  have e : pw X (fun _ _ => false) 198 = wl X s0 := by
    unfold pw wl
    apply List.map_congr_left
    intro k _
    rw [pent_s0]
  rw [e] at h
  exact h
def D0 : sto := fun _ _ => 0
def g0 : G := (D0, 0, 0, fun _ => [], [], -1, fun _ => 0, -1, fun _ => 0)
theorem g0_oi : OI s0 g0 1 := by
  refine ⟨⟨s0_z (by decide), s0_z (by decide), fun s _ _ => ⟨s0_z (by decide), s0_z (by decide), s0_z (by decide), s0_z (by decide), s0_z (by decide), s0_z (by decide), s0_z (by decide)⟩, fun s h1 h2 => absurd h2 (Int.not_lt.mpr h1), fun v _ _ => ⟨s0_z (by decide), s0_z (by decide), s0_z (by decide), s0_z (by decide)⟩, fun i _ _ => (s0_z (by decide)).symm⟩, ⟨⟨by decide, by decide⟩, fun a b h _ _ _ _ _ _ hne => absurd rfl hne, fun s _ _ => ?_, fun a m p _ _ m0 _ _ _ he => ?_⟩, fun v v0 v1 => ⟨s0_z (by omega), (show ln [] ≤ 12 by decide), fun i i0 i1 => absurd i1 (Int.not_lt.mpr i0)⟩, ⟨s0_z (by decide), by decide, by rw [s0_z (by decide)]; omega, by rw [s0_z (by decide)]; omega, fun j j0 j1 => absurd j1 (Int.not_lt.mpr j0)⟩, by decide, fun i i0 i1 => absurd (show i < -1 from i1) (by omega), by decide, fun k _ _ => s0_z (by decide)⟩
  · rw [s0_z (by decide), show s0 3 5 = 1 by decide]; omega
  · rw [s0_z (by decide), show s0 3 5 = 1 by decide] at he; omega
theorem g0_ri : RI s0 g0 := by
  refine ⟨fun v v0 v1 => ⟨s0_z (by decide), (show ln [] ≤ 12 by decide), fun i i0 i1 => absurd i1 (Int.not_lt.mpr i0)⟩, ⟨by decide, by decide, fun s _ _ => ⟨s0_z (by decide), s0_z (by decide), s0_z (by decide), s0_z (by decide), s0_z (by decide), s0_z (by decide), s0_z (by decide)⟩, fun s h1 h2 => absurd h2 (Int.not_lt.mpr h1), fun v _ _ => ⟨s0_z (by decide), s0_z (by decide), s0_z (by decide), s0_z (by decide)⟩, fun a b h _ _ _ _ _ _ => s0_z (by decide)⟩, ⟨by decide, by decide, fun j j0 j1 => absurd j1 (Int.not_lt.mpr j0)⟩, by decide, fun i i0 i1 => absurd (show i < -1 from i1) (by omega), by decide, fun k _ _ => s0_z (by decide)⟩
theorem g0_ok : g0.ok := by
  refine ⟨⟨by decide, fun s h1 h2 => absurd h2 (Int.not_lt.mpr h1), fun s h1 h2 => absurd h2 (Int.not_lt.mpr h1), fun s h1 h2 => absurd h2 (Int.not_lt.mpr h1), fun a b _ _ _ _ => ⟨fun _ _ _ => rfl, Or.inl (fun _ _ _ => rfl), fun _ _ _ _ => rfl⟩⟩, ⟨by decide, fun s hs => (by cases hs), fun v _ _ _ => rfl⟩, fun v h1 h2 => absurd h2 (Int.not_lt.mpr h1), fun Q hQ => (by cases hQ), by decide, by decide⟩
theorem OI.mf {σ σ' : sto} {g : G} {B : Int} (h : OI σ g B) (hF : MF σ σ') : OI σ' g B := by
  obtain ⟨h1, h2, h3, h4, h5, h6, h7, h8⟩ := h
  exact ⟨h1.keep (fun c i q => hF c i (by omega)), h2.keep (fun c i q => hF c i (by omega)), h3.same (fun c i c0 c1 => hF c i (by omega)), h4.keep (fun c i c0 c1 => hF c i (by omega)), by rw [hF 0 9 (by omega)]; exact h5, fun i i0 i1 => by rw [hF 167 i (by omega)]; exact h6 i i0 i1, by rw [hF 0 10 (by omega)]; exact h7, fun k k0 k1 => by rw [hF 168 k (by omega)]; exact h8 k k0 k1⟩
theorem RI.vf {σ σ' : sto} {g : G} (h : RI σ g) (hF : VF σ σ') : RI σ' g := ⟨h.1.keep (fun c i q => hF c i (by omega)), h.2.keep (fun c i q => hF c i (by omega))⟩
