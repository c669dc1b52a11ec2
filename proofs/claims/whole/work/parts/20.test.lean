set_option maxRecDepth 10000 in
theorem t_hasKitchen {l : Launch} {X : XT} {d k : Nat} {x : Int32} {σ : ST} {Q : Option AV → ST → Prop} (h : Q (some (.inl (if 0 ≤ x ∧ x < σ k 0 then 1 else 0))) σ) : MT l X (d + 1) i_Lane_hasKitchen [.inr (3, k), .inl x] σ Q := by
  refine mt_wp g_Lane_hasKitchen (by decide) k_Lane_hasKitchen (by decide) ?_
  intro CT G hCT hG
  refine hG [] 20 0 _ _ _ ?_
  conv => whnf
  trace_state
  sorry
