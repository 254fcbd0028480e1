/-! the two first states belong together: written by wip/whole/rel -/
/-- the reference's first state -/
def mo_N : bn_S := (fun c _ => if c = 1 then 8 else if c = 2 then 10 else if c = 3 then 3 else if c = 24 then -1 else if c = 27 then -1 else 0, fun _ _ => 0, fun c x => if c = 22 ∧ x < 5 then rl_w (64 + x) 0 (64 + x) 0 else 0, fun _ _ => none)
theorem mo_N_wf : mo_wf mo_N := by
  refine ⟨fun c x => ?_, fun x => Or.inl (Nat.zero_le _), fun x h9 => absurd (show (-1 : Int32) < 0 from by decide) h9⟩
  show 0 < mo_uB c
  unfold mo_uB
  repeat' split
  all_goals omega
theorem rl_64a (b : Nat) : 64 + nI b = nI (64 + b) := by
  show nI 64 + nI b = _
  rw [rl_nI_add]
theorem rm_0 : RM 0 ne_N mo_N := by
  refine ⟨⟨fun x hx => rfl, fun x hx => rfl, fun x hx => rfl, fun x hx => rfl, fun x hx => rfl, fun x hx => rfl, fun x hx => Nat.zero_lt_succ 1, fun x hx => rfl, fun x hx => ⟨10, by omega, rfl⟩, fun x hx => Or.inl rfl, fun x hx => fun h9 => absurd h9 (show ¬ (0 : Int32) = 2 from by decide), fun x hx => fun h9 => h9.elim (fun h8 => absurd h8 (show ¬ (0 : Int32) = 1 from by decide)) (fun h8 => absurd h8 (show ¬ (0 : Int32) = 3 from by decide)), fun x hx => fun h9 => absurd h9 (show ¬ (0 : Int32) = 2 from by decide), fun x hx => fun h9 => absurd h9 (show ¬ (0 : Int32) = 2 from by decide), fun x hx => Or.inl ⟨rfl, rfl⟩, fun x hx => rfl, fun x hx => rfl, fun x hx => Or.inl (Nat.zero_le _), fun x hx => fun h9 => absurd h9 (show ¬ 1 ≤ 0 from by decide), fun x hx => fun h9 => absurd h9 (show ¬ 100 ≤ 0 from by decide), fun x hx => rfl, fun x hx => Nat.zero_le _, fun x hx => Nat.zero_lt_succ 11, fun x hx => fun k h9 => absurd h9 (Nat.not_lt_zero k), fun b hb => ⟨8, by omega, rfl, rl_64a b⟩, fun b hb => ⟨64 + b, 0, 64 + b, 0, 0, by omega, by omega, by omega, by omega, by omega, rl_64a b, rfl, rfl, if_pos ⟨rfl, hb⟩, rfl⟩, fun b hb => Or.inl ⟨rfl, rfl⟩, fun b hb i hi => rfl, fun b hb i hi => Nat.zero_lt_succ 3, fun b hb i hi => ⟨0, by omega, rfl, rfl⟩, fun t ht => rfl, fun t ht => Nat.zero_le _, fun t ht k hk => rfl, rfl, rfl, rfl, rfl, rfl, rfl, rfl, rfl, rfl, rfl, rfl, rfl, rfl, rfl, rfl, rfl, rfl, rfl, rfl, fun _ _ => ⟨rfl, rfl⟩⟩, Or.inl ⟨rfl, rfl⟩, fun t ht => Or.inl ⟨rfl, show (-1 : Int32) < 0 from by decide⟩, fun t ht h9 => absurd (show (-1 : Int32) < 0 from by decide) h9⟩
