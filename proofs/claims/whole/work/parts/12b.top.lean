theorem inB02 : inB 0 2 = true := by decide
theorem best_none {n : Nat → Nat} {A : Nat → Nat → Nat} {bl k : Nat} (h : (sBest n A bl k).1 = 0) : (sBest n A bl k).2 = 0 := by
  rcases bst_snd (fun c => decide (A 0 c = 0)) (fun c => sCnt n A c bl) k with q | q
  · exact q.2
  · exact absurd h (Nat.ne_of_gt q.1)
theorem best_some {n : Nat → Nat} {A : Nat → Nat → Nat} {bl k : Nat} (h : ¬ (sBest n A bl k).1 = 0) : 0 < (sBest n A bl k).1 ∧ (sBest n A bl k).1 ≤ k ∧ (sBest n A bl k).2 = sCnt n A ((sBest n A bl k).1 - 1) bl + 1 := by
  rcases bst_snd (fun c => decide (A 0 c = 0)) (fun c => sCnt n A c bl) k with q | q
  · exact absurd q.1 h
  · exact q
theorem best_le {n : Nat → Nat} {A : Nat → Nat → Nat} (h : n 2 ≤ 12) (bl k : Nat) : (sBest n A bl k).1 ≤ k ∧ (sBest n A bl k).2 ≤ 13 := bst_le (fun c => Nat.le_trans (sCnt_le _ _ _ _) h) k
