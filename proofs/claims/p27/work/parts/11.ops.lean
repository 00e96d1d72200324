/-! THE CALLS: both sides are safe, and both texts are as long -/
def Sim (w : Mem) : Prop := (∃ g : Nat → Int, Inv g w) ∧ (w 1 1).toInt = (w 134 0).toInt
theorem op_feed {w : Mem} (hS : Sim w) (va : Int32) : ∃ q1, f_X9_feed va w = some q1 ∧ ∃ q2, f_X10_feed va q1.2 = some q2 ∧ Sim q2.2 ∧ True := by
  obtain ⟨⟨g, hI⟩, hlen⟩ := hS
  obtain ⟨q1, hq1, hp1⟩ := sf_X9_feed va w hI
  obtain ⟨hI1, hp1⟩ := hp1
  obtain ⟨q2, hq2, hp2⟩ := sf_X10_feed va q1.2 hI1
  obtain ⟨hI2, hp2⟩ := hp2
  have a1 : q1.2 134 0 = w 134 0 := fr_X9_feed va w q1 hq1 134 0 (by omega)
  have a2 : q2.2 1 1 = q1.2 1 1 := fr_X10_feed va q1.2 q2 hq2 1 1 (by omega)
  refine ⟨q1, hq1, q2, hq2, ⟨⟨g, hI2⟩, ?_⟩, ?_⟩
  · rw [a2]
    rw [a1] at hp2
    omega
  · trivial
theorem op_bridge {w : Mem} (hS : Sim w) : ∃ q1, f_X9_bridge w = some q1 ∧ ∃ q2, f_X10_bridge q1.2 = some q2 ∧ Sim q2.2 ∧ True := by
  obtain ⟨⟨g, hI⟩, hlen⟩ := hS
  obtain ⟨q1, hq1, hp1⟩ := sf_X9_bridge w hI
  obtain ⟨hI1, hp1⟩ := hp1
  obtain ⟨q2, hq2, hp2⟩ := sf_X10_bridge q1.2 hI1
  obtain ⟨⟨g2, hI2⟩, hp2⟩ := hp2
  have a2 : q2.2 1 1 = q1.2 1 1 := fr_X10_bridge q1.2 q2 hq2 1 1 (by omega)
  refine ⟨q1, hq1, q2, hq2, ⟨⟨g2, hI2⟩, ?_⟩, trivial⟩
  rw [a2]
  omega
theorem op_fault {w : Mem} (hS : Sim w) : ∃ q1, f_X9_fault w = some q1 ∧ ∃ q2, f_X10_fault w = some q2 ∧ Sim w ∧ True := by
  obtain ⟨⟨g, hI⟩, hlen⟩ := hS
  obtain ⟨q1, hq1, hp1⟩ := sf_X9_fault w hI
  obtain ⟨q2, hq2, hp2⟩ := sf_X10_fault w hI
  refine ⟨q1, hq1, q2, hq2, ⟨⟨g, hI⟩, ?_⟩, trivial⟩
  exact hlen
theorem op_told {w : Mem} (hS : Sim w) (va : Int32) : ∃ q1, f_X9_told va w = some q1 ∧ ∃ q2, f_X10_told va q1.2 = some q2 ∧ Sim q2.2 ∧ True := by
  obtain ⟨⟨g, hI⟩, hlen⟩ := hS
  obtain ⟨q1, hq1, hp1⟩ := sf_X9_told va w hI
  have hI1 := hp1
  obtain ⟨q2, hq2, hp2⟩ := sf_X10_told va q1.2 hI1
  refine ⟨q1, hq1, q2, hq2, ⟨⟨g, hp2⟩, ?_⟩, trivial⟩
  rw [fr_X10_told va q1.2 q2 hq2 1 1 (by omega), fr_X9_told va w q1 hq1 1 1 (by omega), fr_X10_told va q1.2 q2 hq2 134 0 (by omega), fr_X9_told va w q1 hq1 134 0 (by omega)]
  exact hlen
theorem op_matter {w : Mem} (hS : Sim w) (va : Int32) (vb : Int32) : ∃ q1, f_X9_matter va vb w = some q1 ∧ ∃ q2, f_X10_matter va vb w = some q2 ∧ Sim w ∧ True := by
  obtain ⟨⟨g, hI⟩, hlen⟩ := hS
  obtain ⟨q1, hq1, hp1⟩ := sf_X9_matter va vb w hI
  obtain ⟨q2, hq2, hp2⟩ := sf_X10_matter va vb w hI
  refine ⟨q1, hq1, q2, hq2, ⟨⟨g, hI⟩, ?_⟩, trivial⟩
  exact hlen
theorem op_traveller {w : Mem} (hS : Sim w) (va : Int32) (vb : Int32) : ∃ q1, f_X9_traveller va vb w = some q1 ∧ ∃ q2, f_X10_traveller va vb w = some q2 ∧ Sim w ∧ True := by
  obtain ⟨⟨g, hI⟩, hlen⟩ := hS
  obtain ⟨q1, hq1, hp1⟩ := sf_X9_traveller va vb w hI
  obtain ⟨q2, hq2, hp2⟩ := sf_X10_traveller va vb w hI
  refine ⟨q1, hq1, q2, hq2, ⟨⟨g, hI⟩, ?_⟩, trivial⟩
  exact hlen
theorem op_seat {w : Mem} (hS : Sim w) (va : Int32) : ∃ q1, f_X9_seat va w = some q1 ∧ ∃ q2, f_X10_seat va q1.2 = some q2 ∧ Sim q2.2 ∧ True := by
  obtain ⟨⟨g, hI⟩, hlen⟩ := hS
  obtain ⟨q1, hq1, hp1⟩ := sf_X9_seat va w hI
  have hI1 := hp1
  obtain ⟨q2, hq2, hp2⟩ := sf_X10_seat va q1.2 hI1
  refine ⟨q1, hq1, q2, hq2, ⟨⟨g, hp2⟩, ?_⟩, trivial⟩
  rw [fr_X10_seat va q1.2 q2 hq2 1 1 (by omega), fr_X9_seat va w q1 hq1 1 1 (by omega), fr_X10_seat va q1.2 q2 hq2 134 0 (by omega), fr_X9_seat va w q1 hq1 134 0 (by omega)]
  exact hlen
theorem op_tell {w : Mem} (hS : Sim w) (va : Int32) : ∃ q1, f_X9_tell va w = some q1 ∧ ∃ q2, f_X10_tell va q1.2 = some q2 ∧ Sim q2.2 ∧ True := by
  obtain ⟨⟨g, hI⟩, hlen⟩ := hS
  obtain ⟨q1, hq1, hp1⟩ := sf_X9_tell va w hI
  have hI1 := hp1
  obtain ⟨q2, hq2, hp2⟩ := sf_X10_tell va q1.2 hI1
  refine ⟨q1, hq1, q2, hq2, ⟨⟨g, hp2⟩, ?_⟩, trivial⟩
  rw [fr_X10_tell va q1.2 q2 hq2 1 1 (by omega), fr_X9_tell va w q1 hq1 1 1 (by omega), fr_X10_tell va q1.2 q2 hq2 134 0 (by omega), fr_X9_tell va w q1 hq1 134 0 (by omega)]
  exact hlen
theorem op_rise {w : Mem} (hS : Sim w) : ∃ q1, f_X9_rise w = some q1 ∧ ∃ q2, f_X10_rise q1.2 = some q2 ∧ Sim q2.2 ∧ True := by
  obtain ⟨⟨g, hI⟩, hlen⟩ := hS
  obtain ⟨q1, hq1, hp1⟩ := sf_X9_rise w hI
  have hI1 := hp1
  obtain ⟨q2, hq2, hp2⟩ := sf_X10_rise q1.2 hI1
  refine ⟨q1, hq1, q2, hq2, ⟨⟨g, hp2⟩, ?_⟩, trivial⟩
  rw [fr_X10_rise q1.2 q2 hq2 1 1 (by omega), fr_X9_rise w q1 hq1 1 1 (by omega), fr_X10_rise q1.2 q2 hq2 134 0 (by omega), fr_X9_rise w q1 hq1 134 0 (by omega)]
  exact hlen
theorem op_learn {w : Mem} (hS : Sim w) (va : Int32) : ∃ q1, f_X9_learn va w = some q1 ∧ ∃ q2, f_X10_learn va q1.2 = some q2 ∧ Sim q2.2 ∧ True := by
  obtain ⟨⟨g, hI⟩, hlen⟩ := hS
  obtain ⟨q1, hq1, hp1⟩ := sf_X9_learn va w hI
  have hI1 := hp1
  obtain ⟨q2, hq2, hp2⟩ := sf_X10_learn va q1.2 hI1
  refine ⟨q1, hq1, q2, hq2, ⟨⟨g, hp2⟩, ?_⟩, trivial⟩
  rw [fr_X10_learn va q1.2 q2 hq2 1 1 (by omega), fr_X9_learn va w q1 hq1 1 1 (by omega), fr_X10_learn va q1.2 q2 hq2 134 0 (by omega), fr_X9_learn va w q1 hq1 134 0 (by omega)]
  exact hlen
theorem op_minute {w : Mem} (hS : Sim w) (va : Int32) : ∃ q1, f_X9_minute va w = some q1 ∧ ∃ q2, f_X10_minute va q1.2 = some q2 ∧ Sim q2.2 ∧ True := by
  obtain ⟨⟨g, hI⟩, hlen⟩ := hS
  obtain ⟨q1, hq1, hp1⟩ := sf_X9_minute va w hI
  have hI1 := hp1
  obtain ⟨q2, hq2, hp2⟩ := sf_X10_minute va q1.2 hI1
  refine ⟨q1, hq1, q2, hq2, ⟨⟨g, hp2⟩, ?_⟩, trivial⟩
  rw [fr_X10_minute va q1.2 q2 hq2 1 1 (by omega), fr_X9_minute va w q1 hq1 1 1 (by omega), fr_X10_minute va q1.2 q2 hq2 134 0 (by omega), fr_X9_minute va w q1 hq1 134 0 (by omega)]
  exact hlen
theorem op_anew {w : Mem} (hS : Sim w) : ∃ q1, f_X9_anew w = some q1 ∧ ∃ q2, f_X10_anew q1.2 = some q2 ∧ Sim q2.2 ∧ True := by
  obtain ⟨⟨g, hI⟩, hlen⟩ := hS
  obtain ⟨q1, hq1, hp1⟩ := sf_X9_anew w hI
  have hI1 := hp1
  obtain ⟨q2, hq2, hp2⟩ := sf_X10_anew q1.2 hI1
  refine ⟨q1, hq1, q2, hq2, ⟨⟨g, hp2⟩, ?_⟩, trivial⟩
  rw [fr_X10_anew q1.2 q2 hq2 1 1 (by omega), fr_X9_anew w q1 hq1 1 1 (by omega), fr_X10_anew q1.2 q2 hq2 134 0 (by omega), fr_X9_anew w q1 hq1 134 0 (by omega)]
  exact hlen
theorem op_drift {w : Mem} (hS : Sim w) (va : Int32) : ∃ q1, f_X9_drift va w = some q1 ∧ ∃ q2, f_X10_drift va q1.2 = some q2 ∧ Sim q2.2 ∧ True := by
  obtain ⟨⟨g, hI⟩, hlen⟩ := hS
  obtain ⟨q1, hq1, hp1⟩ := sf_X9_drift va w hI
  have hI1 := hp1
  obtain ⟨q2, hq2, hp2⟩ := sf_X10_drift va q1.2 hI1
  refine ⟨q1, hq1, q2, hq2, ⟨⟨g, hp2⟩, ?_⟩, trivial⟩
  rw [fr_X10_drift va q1.2 q2 hq2 1 1 (by omega), fr_X9_drift va w q1 hq1 1 1 (by omega), fr_X10_drift va q1.2 q2 hq2 134 0 (by omega), fr_X9_drift va w q1 hq1 134 0 (by omega)]
  exact hlen
theorem op_undo {w : Mem} (hS : Sim w) (va : Int32) : ∃ q1, f_X9_undo va w = some q1 ∧ ∃ q2, f_X10_undo va q1.2 = some q2 ∧ Sim q2.2 ∧ True := by
  obtain ⟨⟨g, hI⟩, hlen⟩ := hS
  obtain ⟨q1, hq1, hp1⟩ := sf_X9_undo va w hI
  have hI1 := hp1
  obtain ⟨q2, hq2, hp2⟩ := sf_X10_undo va q1.2 hI1
  refine ⟨q1, hq1, q2, hq2, ⟨⟨g, hp2⟩, ?_⟩, trivial⟩
  rw [fr_X10_undo va q1.2 q2 hq2 1 1 (by omega), fr_X9_undo va w q1 hq1 1 1 (by omega), fr_X10_undo va q1.2 q2 hq2 134 0 (by omega), fr_X9_undo va w q1 hq1 134 0 (by omega)]
  exact hlen
theorem op_stay {w : Mem} (hS : Sim w) (va : Int32) (vb : Int32) : ∃ q1, f_X9_stay va vb w = some q1 ∧ ∃ q2, f_X10_stay va vb w = some q2 ∧ Sim w ∧ True := by
  obtain ⟨⟨g, hI⟩, hlen⟩ := hS
  obtain ⟨q1, hq1, hp1⟩ := sf_X9_stay va vb w hI
  obtain ⟨q2, hq2, hp2⟩ := sf_X10_stay va vb w hI
  refine ⟨q1, hq1, q2, hq2, ⟨⟨g, hI⟩, ?_⟩, trivial⟩
  exact hlen
theorem op_talk {w : Mem} (hS : Sim w) (va : Int32) (vb : Int32) : ∃ q1, f_X9_talk va vb w = some q1 ∧ ∃ q2, f_X10_talk va vb q1.2 = some q2 ∧ Sim q2.2 ∧ True := by
  obtain ⟨⟨g, hI⟩, hlen⟩ := hS
  obtain ⟨q1, hq1, hp1⟩ := sf_X9_talk va vb w hI
  have hI1 := hp1
  obtain ⟨q2, hq2, hp2⟩ := sf_X10_talk va vb q1.2 hI1
  refine ⟨q1, hq1, q2, hq2, ⟨⟨g, hp2⟩, ?_⟩, trivial⟩
  rw [fr_X10_talk va vb q1.2 q2 hq2 1 1 (by omega), fr_X9_talk va vb w q1 hq1 1 1 (by omega), fr_X10_talk va vb q1.2 q2 hq2 134 0 (by omega), fr_X9_talk va vb w q1 hq1 134 0 (by omega)]
  exact hlen
theorem op_queue {w : Mem} (hS : Sim w) (va : Int32) : ∃ q1, f_X9_queue va w = some q1 ∧ ∃ q2, f_X10_queue va q1.2 = some q2 ∧ Sim q2.2 ∧ True := by
  obtain ⟨⟨g, hI⟩, hlen⟩ := hS
  obtain ⟨q1, hq1, hp1⟩ := sf_X9_queue va w hI
  have hI1 := hp1
  obtain ⟨q2, hq2, hp2⟩ := sf_X10_queue va q1.2 hI1
  refine ⟨q1, hq1, q2, hq2, ⟨⟨g, hp2⟩, ?_⟩, trivial⟩
  rw [fr_X10_queue va q1.2 q2 hq2 1 1 (by omega), fr_X9_queue va w q1 hq1 1 1 (by omega), fr_X10_queue va q1.2 q2 hq2 134 0 (by omega), fr_X9_queue va w q1 hq1 134 0 (by omega)]
  exact hlen
theorem op_dry {w : Mem} (hS : Sim w) (va : Int32) (vb : Int32) : ∃ q1, f_X9_dry va vb = some q1 ∧ ∃ q2, f_X10_dry va vb = some q2 ∧ Sim w ∧ True := by
  obtain ⟨⟨g, hI⟩, hlen⟩ := hS
  obtain ⟨q1, hq1, hp1⟩ := sf_X9_dry va vb
  obtain ⟨q2, hq2, hp2⟩ := sf_X10_dry va vb
  refine ⟨q1, hq1, q2, hq2, ⟨⟨g, hI⟩, ?_⟩, trivial⟩
  exact hlen
theorem op_stayed {w : Mem} (hS : Sim w) (va : Int32) (vb : Int32) : ∃ q1, f_X9_stayed va vb w = some q1 ∧ ∃ q2, f_X10_stayed va vb q1.2 = some q2 ∧ Sim q2.2 ∧ True := by
  obtain ⟨⟨g, hI⟩, hlen⟩ := hS
  obtain ⟨q1, hq1, hp1⟩ := sf_X9_stayed va vb w hI
  have hI1 := hp1
  obtain ⟨q2, hq2, hp2⟩ := sf_X10_stayed va vb q1.2 hI1
  refine ⟨q1, hq1, q2, hq2, ⟨⟨g, hp2⟩, ?_⟩, trivial⟩
  rw [fr_X10_stayed va vb q1.2 q2 hq2 1 1 (by omega), fr_X9_stayed va vb w q1 hq1 1 1 (by omega), fr_X10_stayed va vb q1.2 q2 hq2 134 0 (by omega), fr_X9_stayed va vb w q1 hq1 134 0 (by omega)]
  exact hlen
theorem op_couldBe {w : Mem} (hS : Sim w) : ∃ q1, f_X9_couldBe w = some q1 ∧ ∃ q2, f_X10_couldBe w = some q2 ∧ Sim w ∧ True := by
  obtain ⟨⟨g, hI⟩, hlen⟩ := hS
  obtain ⟨q1, hq1, hp1⟩ := sf_X9_couldBe w hI
  obtain ⟨q2, hq2, hp2⟩ := sf_X10_couldBe w hI
  refine ⟨q1, hq1, q2, hq2, ⟨⟨g, hI⟩, ?_⟩, trivial⟩
  exact hlen
theorem op_ask {w : Mem} (hS : Sim w) : ∃ q1, f_X9_ask w = some q1 ∧ ∃ q2, f_X10_ask w = some q2 ∧ Sim w ∧ True := by
  obtain ⟨⟨g, hI⟩, hlen⟩ := hS
  obtain ⟨q1, hq1, hp1⟩ := sf_X9_ask w hI
  obtain ⟨q2, hq2, hp2⟩ := sf_X10_ask w hI
  refine ⟨q1, hq1, q2, hq2, ⟨⟨g, hI⟩, ?_⟩, trivial⟩
  exact hlen
theorem op_write {w : Mem} (hS : Sim w) (va : Int32) (vb : Int32) : ∃ q1, f_X9_write va vb w = some q1 ∧ ∃ q2, f_X10_write va vb q1.2 = some q2 ∧ Sim q2.2 ∧ True := by
  obtain ⟨⟨g, hI⟩, hlen⟩ := hS
  obtain ⟨q1, hq1, hp1⟩ := sf_X9_write va vb w hI
  have hI1 := hp1
  obtain ⟨q2, hq2, hp2⟩ := sf_X10_write va vb q1.2 hI1
  refine ⟨q1, hq1, q2, hq2, ⟨⟨g, hp2⟩, ?_⟩, trivial⟩
  rw [fr_X10_write va vb q1.2 q2 hq2 1 1 (by omega), fr_X9_write va vb w q1 hq1 1 1 (by omega), fr_X10_write va vb q1.2 q2 hq2 134 0 (by omega), fr_X9_write va vb w q1 hq1 134 0 (by omega)]
  exact hlen
theorem op_judge {w : Mem} (hS : Sim w) : ∃ q1, f_X9_judge w = some q1 ∧ ∃ q2, f_X10_judge w = some q2 ∧ Sim w ∧ True := by
  obtain ⟨⟨g, hI⟩, hlen⟩ := hS
  obtain ⟨q1, hq1, hp1⟩ := sf_X9_judge w hI
  obtain ⟨q2, hq2, hp2⟩ := sf_X10_judge w hI
  refine ⟨q1, hq1, q2, hq2, ⟨⟨g, hI⟩, ?_⟩, trivial⟩
  exact hlen
theorem op_tear {w : Mem} (hS : Sim w) : ∃ q1, f_X9_tear w = some q1 ∧ ∃ q2, f_X10_tear q1.2 = some q2 ∧ Sim q2.2 ∧ True := by
  obtain ⟨⟨g, hI⟩, hlen⟩ := hS
  obtain ⟨q1, hq1, hp1⟩ := sf_X9_tear w hI
  have hI1 := hp1
  obtain ⟨q2, hq2, hp2⟩ := sf_X10_tear q1.2 hI1
  refine ⟨q1, hq1, q2, hq2, ⟨⟨g, hp2⟩, ?_⟩, trivial⟩
  rw [fr_X10_tear q1.2 q2 hq2 1 1 (by omega), fr_X9_tear w q1 hq1 1 1 (by omega), fr_X10_tear q1.2 q2 hq2 134 0 (by omega), fr_X9_tear w q1 hq1 134 0 (by omega)]
  exact hlen
theorem op_seed {w : Mem} (hS : Sim w) (va : Int32) : ∃ q1, f_X9_seed va w = some q1 ∧ ∃ q2, f_X10_seed va q1.2 = some q2 ∧ Sim q2.2 ∧ True := by
  obtain ⟨⟨g, hI⟩, hlen⟩ := hS
  obtain ⟨q1, hq1, hp1⟩ := sf_X9_seed va w hI
  have hI1 := hp1
  obtain ⟨q2, hq2, hp2⟩ := sf_X10_seed va q1.2 hI1
  refine ⟨q1, hq1, q2, hq2, ⟨⟨g, hp2⟩, ?_⟩, trivial⟩
  rw [fr_X10_seed va q1.2 q2 hq2 1 1 (by omega), fr_X9_seed va w q1 hq1 1 1 (by omega), fr_X10_seed va q1.2 q2 hq2 134 0 (by omega), fr_X9_seed va w q1 hq1 134 0 (by omega)]
  exact hlen
theorem op_keep {w : Mem} (hS : Sim w) (va : Int32) : ∃ q1, f_X9_keep va w = some q1 ∧ ∃ q2, f_X10_keep va q1.2 = some q2 ∧ Sim q2.2 ∧ q1.1 = q2.1 := by
  obtain ⟨⟨g, hI⟩, hlen⟩ := hS
  obtain ⟨q1, hq1, hp1⟩ := sf_X9_keep va w hI
  have hI1 := hp1
  obtain ⟨q2, hq2, hp2⟩ := sf_X10_keep va q1.2 hI1
  obtain ⟨g2, hI2⟩ := hp2
  refine ⟨q1, hq1, q2, hq2, ⟨⟨g2, hI2⟩, ?_⟩, eq_keep va w q1.2 q1 q2 hq1 hq2⟩
  rw [fr_X10_keep va q1.2 q2 hq2 1 1 (by omega), fr_X9_keep va w q1 hq1 1 1 (by omega), fr_X10_keep va q1.2 q2 hq2 134 0 (by omega), fr_X9_keep va w q1 hq1 134 0 (by omega)]
  exact hlen
theorem op_goBack {w : Mem} (hS : Sim w) (va : Int32) : ∃ q1, f_X9_goBack va w = some q1 ∧ ∃ q2, f_X10_goBack va q1.2 = some q2 ∧ Sim q2.2 ∧ True := by
  obtain ⟨⟨g, hI⟩, hlen⟩ := hS
  obtain ⟨q1, hq1, hp1⟩ := sf_X9_goBack va w hI
  have hI1 := hp1
  obtain ⟨q2, hq2, hp2⟩ := sf_X10_goBack va q1.2 hI1
  refine ⟨q1, hq1, q2, hq2, ⟨⟨g, hp2⟩, ?_⟩, trivial⟩
  rw [fr_X10_goBack va q1.2 q2 hq2 1 1 (by omega), fr_X9_goBack va w q1 hq1 1 1 (by omega), fr_X10_goBack va q1.2 q2 hq2 134 0 (by omega), fr_X9_goBack va w q1 hq1 134 0 (by omega)]
  exact hlen
theorem inv_w0 : Inv (fun _ => 0) w0 := by
  refine ⟨by decide, fun k i => ?_⟩
  by_cases h1 : k = 1
  · subst h1
    show (if i = 1 then _ else True)
    by_cases e : i = 1
    · subst e; rw [if_pos rfl]; decide
    · rw [if_neg e]; trivial
  by_cases h2 : k = 134
  · subst h2
    refine rg_134 ?_ ?_ ?_ ?_ ?_ ?_ ?_ ?_ ?_ ?_ ?_ ?_ ?_ <;> (intro e; subst e; decide)
  by_cases h3 : k = 146
  · subst h3
    refine ⟨fun e => ?_, fun e => ?_⟩
    · have e' : i = 4 := by omega
      subst e'; decide
    · have e' : i = 6 := by omega
      subst e'; decide
  by_cases h4 : k = 154
  · subst h4
    exact ⟨fun _ => rfl, fun _ => rfl, fun _ => by show 0 ≤ (0 : Int32).toInt ∧ (0 : Int32).toInt ≤ 1; decide⟩
  by_cases h5 : k = 155
  · subst h5
    exact ⟨fun _ => by show -1 ≤ (0 : Int32).toInt ∧ (0 : Int32).toInt ≤ 5; decide, fun _ => by show -1 ≤ (0 : Int32).toInt ∧ (0 : Int32).toInt ≤ 7; decide, fun _ => by show (0 : Int32).toInt ≤ 6 * (0 : Int) + 5 - 6 * (0 : Int); decide, fun _ => by show (0 : Int32).toInt ≤ 6 * (0 : Int) + 5 - 6 * (0 : Int); decide⟩
  by_cases h6 : k = 3 ∨ k = 127 ∨ k = 131 ∨ (8 ≤ k ∧ k < 98 ∧ (k - 8) % 3 = 0)
  · have ho : EvO k := by
      rcases h6 with h | h | h | h
      · exact Or.inl h
      · exact Or.inr (Or.inl h)
      · exact Or.inr (Or.inr (Or.inl h))
      · exact Or.inr (Or.inr (Or.inr ⟨(k - 8) / 3, by omega, by omega⟩))
    exact (rgEv ho i _).1
  by_cases h7 : k = 0
  · subst h7; exact trivial
  by_cases h8 : k = 99
  · subst h8; exact trivial
  have hz : w0 k i = 0 := by
    unfold w0
    rw [if_neg h7, if_neg h1, if_neg h8, if_neg h2, if_neg h3, if_neg h6]
  rw [hz]
  have l0 : (0 : Int32).toInt = 0 := by decide
  rw [l0]
  unfold Rg
  simp only [h1, h2, h3, h4, h5, if_false]
  repeat' split
  all_goals first | trivial | decide | omega | (refine ⟨fun _ => ?_, fun _ => ?_⟩ <;> decide)
theorem sim_w0 : Sim w0 := ⟨⟨_, inv_w0⟩, rfl⟩
