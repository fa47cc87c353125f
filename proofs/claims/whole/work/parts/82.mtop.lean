theorem top_run {A : MT} {b : Int} {T : PT 40} {k : MK} {n m f t w : Int} (hk : k_wy k = 0) (hr : rep_ A b 40 T n m) (hw : f < t → wok_ 40 T w 0 f t) : ∃ (N : Nat) (k' : MK), mst_ A b f t N (pu_ k n f t w 0) (gen_ 40 T w 0 f t) k' ∧ k_wy k' = 0 := by
  have hp := rep_rng hr
  unfold pu_
  by_cases hft : f < t
  · rw [if_pos ⟨hft, hp.1⟩]
    obtain ⟨N, k2, h1, h2, h3⟩ := sim_all A b f t 40 T 0 k n m f t w 0 hk (by omega) hr (hw hft) hft ⟨Int.le_refl _, Int.le_refl _⟩
    exact ⟨N, k2, h1, h2⟩
  · rw [if_neg (fun z => hft z.1), gen_nil (by omega)]
    exact ⟨0, k, ⟨rfl, rfl⟩, hk⟩
