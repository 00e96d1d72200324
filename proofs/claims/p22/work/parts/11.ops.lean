/-! THE CALLS: both sides are safe, and hold the same in common -/
def Sim (w : Mem) : Prop := (∃ g : Nat → Int, Inv g w) ∧ SimB w w
theorem op_feed {w : Mem} (hS : Sim w) (va : Int32) : ∃ q1, f_X9_feed va w = some q1 ∧ ∃ q2, f_X10_feed va q1.2 = some q2 ∧ Sim q2.2 ∧ True := by
  obtain ⟨⟨g, hI⟩, hB⟩ := hS
  obtain ⟨q1, hq1, hp1⟩ := sf_X9_feed va w hI
  obtain ⟨hI1, hp1⟩ := hp1
  obtain ⟨q2, hq2, hp2⟩ := sf_X10_feed va q1.2 hI1
  have fr1 := fr_X9_feed va w q1 hq1
  have fr2 := fr_X10_feed va q1.2 q2 hq2
  have hB0 : SimB w q1.2 := simb_of hB (fun k i _ => rfl) (fun k i h => fr1 k i (by omega))
  have hR := rc_feed hB0 q1 q2 hq1 hq2
  have hB2 : SimB q2.2 q2.2 := simb_of hR.2 (fun k i h => fr2 k i (by omega)) (fun k i h => rfl)
  exact ⟨q1, hq1, q2, hq2, ⟨⟨g, hp2.1⟩, hB2⟩, trivial⟩
theorem op_bridge {w : Mem} (hS : Sim w) : ∃ q1, f_X9_bridge w = some q1 ∧ ∃ q2, f_X10_bridge q1.2 = some q2 ∧ Sim q2.2 ∧ True := by
  obtain ⟨⟨g, hI⟩, hB⟩ := hS
  obtain ⟨q1, hq1, hp1⟩ := sf_X9_bridge w hI
  obtain ⟨hI1, hp1⟩ := hp1
  obtain ⟨q2, hq2, hp2⟩ := sf_X10_bridge q1.2 hI1
  have fr1 := fr_X9_bridge w q1 hq1
  have fr2 := fr_X10_bridge q1.2 q2 hq2
  obtain ⟨⟨g2, hI2⟩, hp2⟩ := hp2
  obtain ⟨r0, h0, hp0⟩ := sf_X10_readsBridge q1.2 hI1
  have hc : ∀ r, f_X10_readsBridge q1.2 = some r → (0 ≤ (r.2 134 8).toInt ∧ (r.2 134 8).toInt ≤ 8) ∧ (0 ≤ (r.2 134 9).toInt ∧ (r.2 134 9).toInt ≤ 6) := by
    intro r hr
    rw [h0] at hr
    cases hr
    exact ⟨iv_134_8 hp0.1, iv_134_9 hp0.1⟩
  have hB0 : SimB w q1.2 := simb_of hB (fun k i _ => rfl) (fun k i h => fr1 k i (by omega))
  have hR := rc_bridge hB0 hc q1 q2 hq1 hq2
  have hB2 : SimB q2.2 q2.2 := simb_of hR.2 (fun k i h => fr2 k i (by omega)) (fun k i h => rfl)
  exact ⟨q1, hq1, q2, hq2, ⟨⟨g2, hI2⟩, hB2⟩, trivial⟩
theorem op_fault {w : Mem} (hS : Sim w) : ∃ q1, f_X9_fault w = some q1 ∧ ∃ q2, f_X10_fault w = some q2 ∧ Sim w ∧ True := by
  obtain ⟨⟨g, hI⟩, hB⟩ := hS
  obtain ⟨q1, hq1, hp1⟩ := sf_X9_fault w hI
  obtain ⟨q2, hq2, hp2⟩ := sf_X10_fault w hI
  exact ⟨q1, hq1, q2, hq2, ⟨⟨g, hI⟩, hB⟩, trivial⟩
theorem op_told {w : Mem} (hS : Sim w) (va : Int32) : ∃ q1, f_X9_told va w = some q1 ∧ ∃ q2, f_X10_told va q1.2 = some q2 ∧ Sim q2.2 ∧ True := by
  obtain ⟨⟨g, hI⟩, hB⟩ := hS
  obtain ⟨q1, hq1, hp1⟩ := sf_X9_told va w hI
  have hI1 := hp1
  obtain ⟨q2, hq2, hp2⟩ := sf_X10_told va q1.2 hI1
  have fr1 := fr_X9_told va w q1 hq1
  have fr2 := fr_X10_told va q1.2 q2 hq2
  exact ⟨q1, hq1, q2, hq2, ⟨⟨g, hp2⟩, simb_of hB (fun k i h => (fr2 k i (by omega)).trans (fr1 k i (by omega))) (fun k i h => (fr2 k i (by omega)).trans (fr1 k i (by omega)))⟩, trivial⟩
theorem op_matter {w : Mem} (hS : Sim w) (va : Int32) (vb : Int32) : ∃ q1, f_X9_matter va vb w = some q1 ∧ ∃ q2, f_X10_matter va vb w = some q2 ∧ Sim w ∧ True := by
  obtain ⟨⟨g, hI⟩, hB⟩ := hS
  obtain ⟨q1, hq1, hp1⟩ := sf_X9_matter va vb w hI
  obtain ⟨q2, hq2, hp2⟩ := sf_X10_matter va vb w hI
  exact ⟨q1, hq1, q2, hq2, ⟨⟨g, hI⟩, hB⟩, trivial⟩
theorem op_traveller {w : Mem} (hS : Sim w) (va : Int32) (vb : Int32) : ∃ q1, f_X9_traveller va vb w = some q1 ∧ ∃ q2, f_X10_traveller va vb w = some q2 ∧ Sim w ∧ True := by
  obtain ⟨⟨g, hI⟩, hB⟩ := hS
  obtain ⟨q1, hq1, hp1⟩ := sf_X9_traveller va vb w hI
  obtain ⟨q2, hq2, hp2⟩ := sf_X10_traveller va vb w hI
  exact ⟨q1, hq1, q2, hq2, ⟨⟨g, hI⟩, hB⟩, trivial⟩
theorem op_seat {w : Mem} (hS : Sim w) (va : Int32) : ∃ q1, f_X9_seat va w = some q1 ∧ ∃ q2, f_X10_seat va q1.2 = some q2 ∧ Sim q2.2 ∧ True := by
  obtain ⟨⟨g, hI⟩, hB⟩ := hS
  obtain ⟨q1, hq1, hp1⟩ := sf_X9_seat va w hI
  have hI1 := hp1
  obtain ⟨q2, hq2, hp2⟩ := sf_X10_seat va q1.2 hI1
  have fr1 := fr_X9_seat va w q1 hq1
  have fr2 := fr_X10_seat va q1.2 q2 hq2
  exact ⟨q1, hq1, q2, hq2, ⟨⟨g, hp2⟩, simb_of hB (fun k i h => (fr2 k i (by omega)).trans (fr1 k i (by omega))) (fun k i h => (fr2 k i (by omega)).trans (fr1 k i (by omega)))⟩, trivial⟩
theorem op_tell {w : Mem} (hS : Sim w) (va : Int32) : ∃ q1, f_X9_tell va w = some q1 ∧ ∃ q2, f_X10_tell va q1.2 = some q2 ∧ Sim q2.2 ∧ True := by
  obtain ⟨⟨g, hI⟩, hB⟩ := hS
  obtain ⟨q1, hq1, hp1⟩ := sf_X9_tell va w hI
  have hI1 := hp1
  obtain ⟨q2, hq2, hp2⟩ := sf_X10_tell va q1.2 hI1
  have fr1 := fr_X9_tell va w q1 hq1
  have fr2 := fr_X10_tell va q1.2 q2 hq2
  exact ⟨q1, hq1, q2, hq2, ⟨⟨g, hp2⟩, simb_of hB (fun k i h => (fr2 k i (by omega)).trans (fr1 k i (by omega))) (fun k i h => (fr2 k i (by omega)).trans (fr1 k i (by omega)))⟩, trivial⟩
theorem op_rise {w : Mem} (hS : Sim w) : ∃ q1, f_X9_rise w = some q1 ∧ ∃ q2, f_X10_rise q1.2 = some q2 ∧ Sim q2.2 ∧ True := by
  obtain ⟨⟨g, hI⟩, hB⟩ := hS
  obtain ⟨q1, hq1, hp1⟩ := sf_X9_rise w hI
  have hI1 := hp1
  obtain ⟨q2, hq2, hp2⟩ := sf_X10_rise q1.2 hI1
  have fr1 := fr_X9_rise w q1 hq1
  have fr2 := fr_X10_rise q1.2 q2 hq2
  exact ⟨q1, hq1, q2, hq2, ⟨⟨g, hp2⟩, simb_of hB (fun k i h => (fr2 k i (by omega)).trans (fr1 k i (by omega))) (fun k i h => (fr2 k i (by omega)).trans (fr1 k i (by omega)))⟩, trivial⟩
theorem op_learn {w : Mem} (hS : Sim w) (va : Int32) : ∃ q1, f_X9_learn va w = some q1 ∧ ∃ q2, f_X10_learn va q1.2 = some q2 ∧ Sim q2.2 ∧ True := by
  obtain ⟨⟨g, hI⟩, hB⟩ := hS
  obtain ⟨q1, hq1, hp1⟩ := sf_X9_learn va w hI
  have hI1 := hp1
  obtain ⟨q2, hq2, hp2⟩ := sf_X10_learn va q1.2 hI1
  have fr1 := fr_X9_learn va w q1 hq1
  have fr2 := fr_X10_learn va q1.2 q2 hq2
  exact ⟨q1, hq1, q2, hq2, ⟨⟨g, hp2⟩, simb_of hB (fun k i h => (fr2 k i (by omega)).trans (fr1 k i (by omega))) (fun k i h => (fr2 k i (by omega)).trans (fr1 k i (by omega)))⟩, trivial⟩
theorem op_minute {w : Mem} (hS : Sim w) (va : Int32) : ∃ q1, f_X9_minute va w = some q1 ∧ ∃ q2, f_X10_minute va q1.2 = some q2 ∧ Sim q2.2 ∧ True := by
  obtain ⟨⟨g, hI⟩, hB⟩ := hS
  obtain ⟨q1, hq1, hp1⟩ := sf_X9_minute va w hI
  have hI1 := hp1
  obtain ⟨q2, hq2, hp2⟩ := sf_X10_minute va q1.2 hI1
  have fr1 := fr_X9_minute va w q1 hq1
  have fr2 := fr_X10_minute va q1.2 q2 hq2
  exact ⟨q1, hq1, q2, hq2, ⟨⟨g, hp2⟩, simb_of hB (fun k i h => (fr2 k i (by omega)).trans (fr1 k i (by omega))) (fun k i h => (fr2 k i (by omega)).trans (fr1 k i (by omega)))⟩, trivial⟩
theorem op_anew {w : Mem} (hS : Sim w) : ∃ q1, f_X9_anew w = some q1 ∧ ∃ q2, f_X10_anew q1.2 = some q2 ∧ Sim q2.2 ∧ True := by
  obtain ⟨⟨g, hI⟩, hB⟩ := hS
  obtain ⟨q1, hq1, hp1⟩ := sf_X9_anew w hI
  have hI1 := hp1
  obtain ⟨q2, hq2, hp2⟩ := sf_X10_anew q1.2 hI1
  have fr1 := fr_X9_anew w q1 hq1
  have fr2 := fr_X10_anew q1.2 q2 hq2
  exact ⟨q1, hq1, q2, hq2, ⟨⟨g, hp2⟩, simb_of hB (fun k i h => (fr2 k i (by omega)).trans (fr1 k i (by omega))) (fun k i h => (fr2 k i (by omega)).trans (fr1 k i (by omega)))⟩, trivial⟩
theorem op_drift {w : Mem} (hS : Sim w) (va : Int32) : ∃ q1, f_X9_drift va w = some q1 ∧ ∃ q2, f_X10_drift va q1.2 = some q2 ∧ Sim q2.2 ∧ True := by
  obtain ⟨⟨g, hI⟩, hB⟩ := hS
  obtain ⟨q1, hq1, hp1⟩ := sf_X9_drift va w hI
  have hI1 := hp1
  obtain ⟨q2, hq2, hp2⟩ := sf_X10_drift va q1.2 hI1
  have fr1 := fr_X9_drift va w q1 hq1
  have fr2 := fr_X10_drift va q1.2 q2 hq2
  exact ⟨q1, hq1, q2, hq2, ⟨⟨g, hp2⟩, simb_of hB (fun k i h => (fr2 k i (by omega)).trans (fr1 k i (by omega))) (fun k i h => (fr2 k i (by omega)).trans (fr1 k i (by omega)))⟩, trivial⟩
theorem op_undo {w : Mem} (hS : Sim w) (va : Int32) : ∃ q1, f_X9_undo va w = some q1 ∧ ∃ q2, f_X10_undo va q1.2 = some q2 ∧ Sim q2.2 ∧ True := by
  obtain ⟨⟨g, hI⟩, hB⟩ := hS
  obtain ⟨q1, hq1, hp1⟩ := sf_X9_undo va w hI
  have hI1 := hp1
  obtain ⟨q2, hq2, hp2⟩ := sf_X10_undo va q1.2 hI1
  have fr1 := fr_X9_undo va w q1 hq1
  have fr2 := fr_X10_undo va q1.2 q2 hq2
  exact ⟨q1, hq1, q2, hq2, ⟨⟨g, hp2⟩, simb_of hB (fun k i h => (fr2 k i (by omega)).trans (fr1 k i (by omega))) (fun k i h => (fr2 k i (by omega)).trans (fr1 k i (by omega)))⟩, trivial⟩
theorem op_stay {w : Mem} (hS : Sim w) (va : Int32) (vb : Int32) : ∃ q1, f_X9_stay va vb w = some q1 ∧ ∃ q2, f_X10_stay va vb w = some q2 ∧ Sim w ∧ True := by
  obtain ⟨⟨g, hI⟩, hB⟩ := hS
  obtain ⟨q1, hq1, hp1⟩ := sf_X9_stay va vb w hI
  obtain ⟨q2, hq2, hp2⟩ := sf_X10_stay va vb w hI
  exact ⟨q1, hq1, q2, hq2, ⟨⟨g, hI⟩, hB⟩, trivial⟩
theorem op_talk {w : Mem} (hS : Sim w) (va : Int32) (vb : Int32) : ∃ q1, f_X9_talk va vb w = some q1 ∧ ∃ q2, f_X10_talk va vb q1.2 = some q2 ∧ Sim q2.2 ∧ True := by
  obtain ⟨⟨g, hI⟩, hB⟩ := hS
  obtain ⟨q1, hq1, hp1⟩ := sf_X9_talk va vb w hI
  have hI1 := hp1
  obtain ⟨q2, hq2, hp2⟩ := sf_X10_talk va vb q1.2 hI1
  have fr1 := fr_X9_talk va vb w q1 hq1
  have fr2 := fr_X10_talk va vb q1.2 q2 hq2
  exact ⟨q1, hq1, q2, hq2, ⟨⟨g, hp2⟩, simb_of hB (fun k i h => (fr2 k i (by omega)).trans (fr1 k i (by omega))) (fun k i h => (fr2 k i (by omega)).trans (fr1 k i (by omega)))⟩, trivial⟩
theorem op_queue {w : Mem} (hS : Sim w) (va : Int32) : ∃ q1, f_X9_queue va w = some q1 ∧ ∃ q2, f_X10_queue va q1.2 = some q2 ∧ Sim q2.2 ∧ True := by
  obtain ⟨⟨g, hI⟩, hB⟩ := hS
  obtain ⟨q1, hq1, hp1⟩ := sf_X9_queue va w hI
  have hI1 := hp1
  obtain ⟨q2, hq2, hp2⟩ := sf_X10_queue va q1.2 hI1
  have fr1 := fr_X9_queue va w q1 hq1
  have fr2 := fr_X10_queue va q1.2 q2 hq2
  exact ⟨q1, hq1, q2, hq2, ⟨⟨g, hp2⟩, simb_of hB (fun k i h => (fr2 k i (by omega)).trans (fr1 k i (by omega))) (fun k i h => (fr2 k i (by omega)).trans (fr1 k i (by omega)))⟩, trivial⟩
theorem op_dry {w : Mem} (hS : Sim w) (va : Int32) (vb : Int32) : ∃ q1, f_X9_dry va vb = some q1 ∧ ∃ q2, f_X10_dry va vb = some q2 ∧ Sim w ∧ True := by
  obtain ⟨⟨g, hI⟩, hB⟩ := hS
  obtain ⟨q1, hq1, hp1⟩ := sf_X9_dry va vb
  obtain ⟨q2, hq2, hp2⟩ := sf_X10_dry va vb
  exact ⟨q1, hq1, q2, hq2, ⟨⟨g, hI⟩, hB⟩, trivial⟩
theorem op_stayed {w : Mem} (hS : Sim w) (va : Int32) (vb : Int32) : ∃ q1, f_X9_stayed va vb w = some q1 ∧ ∃ q2, f_X10_stayed va vb q1.2 = some q2 ∧ Sim q2.2 ∧ True := by
  obtain ⟨⟨g, hI⟩, hB⟩ := hS
  obtain ⟨q1, hq1, hp1⟩ := sf_X9_stayed va vb w hI
  have hI1 := hp1
  obtain ⟨q2, hq2, hp2⟩ := sf_X10_stayed va vb q1.2 hI1
  have fr1 := fr_X9_stayed va vb w q1 hq1
  have fr2 := fr_X10_stayed va vb q1.2 q2 hq2
  have hB0 : SimB w q1.2 := simb_of hB (fun k i _ => rfl) (fun k i h => fr1 k i (by omega))
  have hR := rc_stayed hB0 (iv_106_2 hI).2 q1 q2 hq1 hq2
  have hB2 : SimB q2.2 q2.2 := simb_of hR.2 (fun k i h => fr2 k i (by omega)) (fun k i h => rfl)
  exact ⟨q1, hq1, q2, hq2, ⟨⟨g, hp2⟩, hB2⟩, trivial⟩
theorem op_couldBe {w : Mem} (hS : Sim w) : ∃ q1, f_X9_couldBe w = some q1 ∧ ∃ q2, f_X10_couldBe w = some q2 ∧ Sim w ∧ True := by
  obtain ⟨⟨g, hI⟩, hB⟩ := hS
  obtain ⟨q1, hq1, hp1⟩ := sf_X9_couldBe w hI
  obtain ⟨q2, hq2, hp2⟩ := sf_X10_couldBe w hI
  exact ⟨q1, hq1, q2, hq2, ⟨⟨g, hI⟩, hB⟩, trivial⟩
theorem op_ask {w : Mem} (hS : Sim w) : ∃ q1, f_X9_ask w = some q1 ∧ ∃ q2, f_X10_ask w = some q2 ∧ Sim w ∧ q1 = q2 := by
  obtain ⟨⟨g, hI⟩, hB⟩ := hS
  obtain ⟨q1, hq1, hp1⟩ := sf_X9_ask w hI
  obtain ⟨q2, hq2, hp2⟩ := sf_X10_ask w hI
  exact ⟨q1, hq1, q2, hq2, ⟨⟨g, hI⟩, hB⟩, eq_ask hB (iv_106_2 hI).2 q1 q2 hq1 hq2⟩
theorem op_write {w : Mem} (hS : Sim w) (va : Int32) (vb : Int32) : ∃ q1, f_X9_write va vb w = some q1 ∧ ∃ q2, f_X10_write va vb q1.2 = some q2 ∧ Sim q2.2 ∧ True := by
  obtain ⟨⟨g, hI⟩, hB⟩ := hS
  obtain ⟨q1, hq1, hp1⟩ := sf_X9_write va vb w hI
  have hI1 := hp1
  obtain ⟨q2, hq2, hp2⟩ := sf_X10_write va vb q1.2 hI1
  have fr1 := fr_X9_write va vb w q1 hq1
  have fr2 := fr_X10_write va vb q1.2 q2 hq2
  have hB0 : SimB w q1.2 := simb_of hB (fun k i _ => rfl) (fun k i h => fr1 k i (by omega))
  have hR := rc_write hB0 (iv_109_2 hI).2 q1 q2 hq1 hq2
  have hB2 : SimB q2.2 q2.2 := simb_of hR.2 (fun k i h => fr2 k i (by omega)) (fun k i h => rfl)
  exact ⟨q1, hq1, q2, hq2, ⟨⟨g, hp2⟩, hB2⟩, trivial⟩
theorem op_judge {w : Mem} (hS : Sim w) : ∃ q1, f_X9_judge w = some q1 ∧ ∃ q2, f_X10_judge w = some q2 ∧ Sim w ∧ True := by
  obtain ⟨⟨g, hI⟩, hB⟩ := hS
  obtain ⟨q1, hq1, hp1⟩ := sf_X9_judge w hI
  obtain ⟨q2, hq2, hp2⟩ := sf_X10_judge w hI
  exact ⟨q1, hq1, q2, hq2, ⟨⟨g, hI⟩, hB⟩, trivial⟩
theorem op_tear {w : Mem} (hS : Sim w) : ∃ q1, f_X9_tear w = some q1 ∧ ∃ q2, f_X10_tear q1.2 = some q2 ∧ Sim q2.2 ∧ True := by
  obtain ⟨⟨g, hI⟩, hB⟩ := hS
  obtain ⟨q1, hq1, hp1⟩ := sf_X9_tear w hI
  have hI1 := hp1
  obtain ⟨q2, hq2, hp2⟩ := sf_X10_tear q1.2 hI1
  have fr1 := fr_X9_tear w q1 hq1
  have fr2 := fr_X10_tear q1.2 q2 hq2
  have hB0 : SimB w q1.2 := simb_of hB (fun k i _ => rfl) (fun k i h => fr1 k i (by omega))
  have hR := rc_tear hB0 q1 q2 hq1 hq2
  have hB2 : SimB q2.2 q2.2 := simb_of hR.2 (fun k i h => fr2 k i (by omega)) (fun k i h => rfl)
  exact ⟨q1, hq1, q2, hq2, ⟨⟨g, hp2⟩, hB2⟩, trivial⟩
theorem op_seed {w : Mem} (hS : Sim w) (va : Int32) : ∃ q1, f_X9_seed va w = some q1 ∧ ∃ q2, f_X10_seed va q1.2 = some q2 ∧ Sim q2.2 ∧ True := by
  obtain ⟨⟨g, hI⟩, hB⟩ := hS
  obtain ⟨q1, hq1, hp1⟩ := sf_X9_seed va w hI
  have hI1 := hp1
  obtain ⟨q2, hq2, hp2⟩ := sf_X10_seed va q1.2 hI1
  have fr1 := fr_X9_seed va w q1 hq1
  have fr2 := fr_X10_seed va q1.2 q2 hq2
  exact ⟨q1, hq1, q2, hq2, ⟨⟨g, hp2⟩, simb_of hB (fun k i h => (fr2 k i (by omega)).trans (fr1 k i (by omega))) (fun k i h => (fr2 k i (by omega)).trans (fr1 k i (by omega)))⟩, trivial⟩
theorem op_keep {w : Mem} (hS : Sim w) (va : Int32) : ∃ q1, f_X9_keep va w = some q1 ∧ ∃ q2, f_X10_keep va q1.2 = some q2 ∧ Sim q2.2 ∧ True := by
  obtain ⟨⟨g, hI⟩, hB⟩ := hS
  obtain ⟨q1, hq1, hp1⟩ := sf_X9_keep va w hI
  have hI1 := hp1
  obtain ⟨q2, hq2, hp2⟩ := sf_X10_keep va q1.2 hI1
  have fr1 := fr_X9_keep va w q1 hq1
  have fr2 := fr_X10_keep va q1.2 q2 hq2
  obtain ⟨g2, hI2⟩ := hp2
  have hB0 : SimB w q1.2 := simb_of hB (fun k i _ => rfl) (fun k i h => fr1 k i (by omega))
  have hR := rc_keep hB0 q1 q2 hq1 hq2
  have hB2 : SimB q2.2 q2.2 := simb_of hR.2 (fun k i h => fr2 k i (by omega)) (fun k i h => rfl)
  exact ⟨q1, hq1, q2, hq2, ⟨⟨g2, hI2⟩, hB2⟩, trivial⟩
theorem op_goBack {w : Mem} (hS : Sim w) (va : Int32) : ∃ q1, f_X9_goBack va w = some q1 ∧ ∃ q2, f_X10_goBack va q1.2 = some q2 ∧ Sim q2.2 ∧ True := by
  obtain ⟨⟨g, hI⟩, hB⟩ := hS
  obtain ⟨q1, hq1, hp1⟩ := sf_X9_goBack va w hI
  have hI1 := hp1
  obtain ⟨q2, hq2, hp2⟩ := sf_X10_goBack va q1.2 hI1
  have fr1 := fr_X9_goBack va w q1 hq1
  have fr2 := fr_X10_goBack va q1.2 q2 hq2
  exact ⟨q1, hq1, q2, hq2, ⟨⟨g, hp2⟩, simb_of hB (fun k i h => (fr2 k i (by omega)).trans (fr1 k i (by omega))) (fun k i h => (fr2 k i (by omega)).trans (fr1 k i (by omega)))⟩, trivial⟩
theorem inv_w0 : Inv (fun _ => 0) w0 := by
  refine ⟨by decide, fun k i => ?_⟩
  by_cases h1 : k = 1
  · subst h1
    show (if i = 1 then _ else True)
    by_cases e : i = 1
    · subst e; rw [if_pos rfl]; decide
    · rw [if_neg e]; trivial
  by_cases h2 : k = 134
  · subst h2
    refine rg_134 ?_ ?_ ?_ ?_ ?_ ?_ ?_ ?_ ?_ ?_ ?_ ?_ ?_ <;> (intro e; subst e; decide)
  by_cases h3 : k = 146
  · subst h3
    refine ⟨fun e => ?_, fun e => ?_⟩
    · have e' : i = 4 := by omega
      subst e'; decide
    · have e' : i = 6 := by omega
      subst e'; decide
  by_cases h4 : k = 154
  · subst h4
    exact ⟨fun _ => rfl, fun _ => rfl, fun _ => by show 0 ≤ (0 : Int32).toInt ∧ (0 : Int32).toInt ≤ 1; decide⟩
  by_cases h5 : k = 155
  · subst h5
    exact ⟨fun _ => by show -1 ≤ (0 : Int32).toInt ∧ (0 : Int32).toInt ≤ 5; decide, fun _ => by show -1 ≤ (0 : Int32).toInt ∧ (0 : Int32).toInt ≤ 7; decide, fun _ => by show (0 : Int32).toInt ≤ 6 * (0 : Int) + 5 - 6 * (0 : Int); decide, fun _ => by show (0 : Int32).toInt ≤ 6 * (0 : Int) + 5 - 6 * (0 : Int); decide⟩
  by_cases h6 : k = 3 ∨ k = 127 ∨ k = 131 ∨ (8 ≤ k ∧ k < 98 ∧ (k - 8) % 3 = 0)
  · have ho : EvO k := by
      rcases h6 with h | h | h | h
      · exact Or.inl h
      · exact Or.inr (Or.inl h)
      · exact Or.inr (Or.inr (Or.inl h))
      · exact Or.inr (Or.inr (Or.inr ⟨(k - 8) / 3, by omega, by omega⟩))
    exact (rgEv ho i _).1
  by_cases h7 : k = 0
  · subst h7; exact trivial
  by_cases h8 : k = 99
  · subst h8; exact trivial
  have hz : w0 k i = 0 := by
    unfold w0
    rw [if_neg h7, if_neg h1, if_neg h8, if_neg h2, if_neg h3, if_neg h6]
  rw [hz]
  have l0 : (0 : Int32).toInt = 0 := by decide
  rw [l0]
  unfold Rg
  simp only [h1, h2, h3, h4, h5, if_false]
  repeat' split
  all_goals first | trivial | decide | omega | (refine ⟨fun _ => ?_, fun _ => ?_⟩ <;> decide)
theorem simb_w0 : SimB w0 w0 := by
  have e8 : brp (w0 0 8) = 112 := by decide
  refine ⟨⟨by decide, by decide, fun i hi => ?_⟩, ?_, by decide, by decide, ⟨⟨by decide, by decide, fun i hi => ?_⟩, ⟨by decide, by decide, fun i hi => ?_⟩⟩, by decide, by decide⟩
  · have e : (w0 1 1).toInt = 0 := by decide
    omega
  · rw [e8]
    refine ⟨by decide, Or.inl (by decide), by decide, fun i hi => ?_, fun i hi => ?_⟩
    · have e : (w0 112 2).toInt = 0 := by decide
      omega
    · have e : (w0 112 3).toInt = 0 := by decide
      omega
  · have e : (w0 106 2).toInt = 0 := by decide
    omega
  · have e : (w0 109 2).toInt = 0 := by decide
    omega
theorem sim_w0 : Sim w0 := ⟨⟨_, inv_w0⟩, simb_w0⟩
