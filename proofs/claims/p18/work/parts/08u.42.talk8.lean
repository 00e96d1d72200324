/-! a new bridge: with which matters rows can begin, the first of the sums -/
theorem rc_bridgeG {w w' : Mem} (h : SimB w w') (hG : BgP (brp (w 0 8)) w) : Rc (fun q _ => BgP (brp (q.2 0 8)) q.2) (f_X9_bridge w) (f_X10_bridge w') := by
  intro q q2 hq hq2
  obtain ⟨v, hv, hV⟩ := pc_cbridge q hq
  have hb : BrO (brp (w 0 9)) := brp_ok _
  have hbb : brp (w 0 9) = 112 ∨ brp (w 0 9) = 119 := hb
  have hb8 : brp (w 0 8) = 112 ∨ brp (w 0 8) = 119 := brp_or _
  obtain ⟨a, b, c, d, e, f⟩ := h
  have fv := fr_X7_readInto _ hb w v hv
  have v08 : v 0 8 = w 0 8 := fv 0 8 (by omega)
  have v09 : v 0 9 = w 0 9 := fv 0 9 (by omega)
  obtain ⟨r, hr⟩ : ∃ r, f_X10_readsBridge w' = some r := by
    unfold f_X10_bridge at hq2
    cases e2 : f_X10_readsBridge w' with
    | none => rw [e2] at hq2; cases hq2
    | some r => exact ⟨r, rfl⟩
  rcases hV with ⟨n, _, g2⟩ | ⟨v13, g⟩
  · rw [g2]
    have L : ∀ k i, ¬ (k = 1 ∧ i = 1) → ¬ (k = 0 ∧ i = 11) → wu (wu v 1 1 0) 0 11 (v 1 4) k i = v k i := by
      intro k i h1 h2
      rw [wu_ne h2, wu_ne h1]
    show BgP (brp (wu (wu v 1 1 0) 0 11 (v 1 4) 0 8)) (wu (wu v 1 1 0) 0 11 (v 1 4))
    rw [L 0 8 (by omega) (by omega), v08]
    exact bgp_of hG (by rw [L _ _ (by omega) (by omega), fv _ _ (by omega)]) (fun i => by rw [L _ _ (by omega) (by omega), fv _ _ (by omega)]) (fun i => by rw [L _ _ (by omega) (by omega), fv _ _ (by omega)])
  · rcases rc_read hb a v r hv hr with ⟨_, v0, _, hD, hS⟩ | ⟨_, hB⟩
    · have hS2 := pc_settle2 hb hD.2.2.1.1 hD.2.2.1.2 v hS
      obtain ⟨_, g8, _, _, _, gc, _⟩ := g
      rw [v09] at g8
      rw [g8]
      exact bgp_of hS2 (gc _ _ (by omega) (by omega)) (fun i => gc _ _ (by omega) (by omega)) (fun i => gc _ _ (by omega) (by omega))
    · exact absurd v13 hB.2.1
def SimT (w w' : Mem) : Prop := SimE w w' ∧ BgP (brp (w 0 8)) w ∧ w 100 0 = 0
theorem simt_of {w u u' : Mem} (hE : SimE u u') (hG : BgP (brp (w 0 8)) w) (h100 : w 100 0 = 0) (h8 : u 0 8 = w 0 8) (hl : ∀ k i, 112 ≤ k → k ≤ 125 → u k i = w k i) (hz : u 100 0 = w 100 0) : SimT u u' := by
  have hb : brp (w 0 8) = 112 ∨ brp (w 0 8) = 119 := brp_or _
  refine ⟨hE, ?_, by rw [hz]; exact h100⟩
  rw [h8]
  exact bgp_of hG (hl _ _ (by omega) (by omega)) (fun i => hl _ _ (by omega) (by omega)) (fun i => hl _ _ (by omega) (by omega))
theorem defs_sf {g : Nat → Int} {b : Nat} (hb : BrO b) {w w' : Mem} (hI : Inv g w) (hI' : Inv g w') (h2 : (w b 2).toInt ≤ 8) (h3 : (w b 3).toInt ≤ 6) : DefS b w w' := by
  intro t k ht hk
  obtain ⟨x, hx, _⟩ := sf_X1_stayOf b hb t k w hI
  obtain ⟨y, hy, _⟩ := sf_X10_stayOf t k w' hI' ht.1 (by omega) hk.1 (by omega)
  exact ⟨⟨x, hx⟩, y, hy⟩
