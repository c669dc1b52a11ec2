set_option maxRecDepth 10000 in
theorem t_hasKitchen {l : Launch} {X : XT} {d k : Nat} {x : Int32} {σ : ST} {Q : Option AV → ST → Prop} (h1 : nI 0 ≤ x → x < σ k 0 → Q (some (.inl (nI 1))) σ) (h0 : ¬ (nI 0 ≤ x ∧ x < σ k 0) → Q (some (.inl (nI 0))) σ) : MT l X (d + 1) i_Lane_hasKitchen [.inr (3, k), .inl x] σ Q := by
  refine mt_wp g_Lane_hasKitchen (by decide) k_Lane_hasKitchen (by simp) ?_
  intro CT G hCT hG
  refine hG [] 20 0 _ _ _ ?_
  repeat' ((conv => whnf); first | (refine And.intro (fun _ => ?_) (fun _ => ?_)) | (refine And.intro (by decide) ?_))
  trace_state
  all_goals sorry
