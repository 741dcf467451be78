/-- a new class and a new reference stand alike -/
theorem R_0 (F S : Nat) : pr_R F S 0 (fun _ => 0) ph_0 (pm_0 F S) := by
  have nl : ∀ a, ¬ pr_lv (ph_R ph_0 2) a := fun a ⟨k, _, e⟩ => by exact nomatch e
  refine ⟨⟨rfl, rfl, rfl, rfl, rfl, rfl, rfl, rfl⟩, ⟨fun _ _ => rfl, fun _ _ _ _ _ _ _ => rfl⟩, ⟨fun _ _ => rfl, fun _ _ => rfl⟩, fun f _ => ⟨fun _ => rfl, fun z => absurd rfl z⟩, ⟨?_, ?_, ?_, ?_⟩, fun a la => absurd la (nl a), ?_, ?_⟩
  · intro k hk _
    show ph_fill _ 0 (0 + 256) (-1) k = -1
    rw [ph_fill, if_pos (by omega)]
  · intro k a _ e
    exact nomatch e
  · intro b _ hb
    exact absurd rfl hb
  · intro a _ la
    exact absurd la (nl a)
  · intro f a _
    exact ⟨fun e => (nomatch e), fun z => absurd z.1 (nl a)⟩
  · intro f a _
    exact ⟨fun e => (nomatch e), fun z => absurd z.1 (nl a)⟩
