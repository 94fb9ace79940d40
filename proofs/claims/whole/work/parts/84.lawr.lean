/-! every script: the law's steps, with fuel enough for all of them -/
theorem st_any {x1 x2 x3 x4 : Int32} {u m : St} (h : RR u m) : ∀ j, stepE j x1 x2 x3 x4 u m
  | 0 => st_kind h
  | 1 => st_place h
  | 2 => st_point h
  | 3 => st_height h
  | 4 => st_hold h
  | 5 => st_light h
  | 6 => st_best h
  | 7 => st_lamp h
  | 8 => st_level h
  | 9 => st_even h
  | 10 => st_aim h
  | 11 => st_scene h
  | 12 => st_dim h
  | 13 => st_miss h
  | 14 => st_sensor h
  | 15 => st_daylight h
  | 16 => st_step h
  | 17 => st_run h
  | 18 => st_own h
  | 19 => st_used h
  | _ + 20 => ⟨u, m, ⟨0, fun _ _ => ⟨rfl, rfl⟩⟩, h⟩
theorem lawR_of {xs : Nat → Int32} {L : Nat} : ∀ (k i : Nat) (u m : St), RR u m → L < i + 5 * k + 5 → ∃ N0, ∀ N, N0 ≤ N → lawR N xs L k i u m := by
  intro k
  induction k with
  | zero => intro i u m _ hL; exact ⟨0, fun N _ => by show L < i + 5; omega⟩
  | succ k ih =>
    intro i u m h hL
    obtain ⟨u', m', ⟨n1, h1⟩, h'⟩ := st_any (x1 := xs (i + 1)) (x2 := xs (i + 2)) (x3 := xs (i + 3)) (x4 := xs (i + 4)) h (opj (xs i))
    obtain ⟨n2, h2⟩ := ih (i + 5) u' m' h' (by omega)
    exact ⟨max n1 n2, fun N hN => Or.inr ⟨u', m', h1 N (by omega), h2 N (by omega)⟩⟩
def d00 : Dt := ((0, 0, 0, 3), fun _ _ => 0, fun _ => 0)
theorem RR_0 : RR u0c u0m := by
  refine ⟨d00, 10, 0, fun _ => 0, fun _ => 0, fun _ => 0, fun _ => 0, fun _ => -1, 0, 0, 0, ?_, ?_, ?_, ?_, ?_, ?_⟩
  · refine ⟨⟨⟨by decide, by decide, by decide, by decide, by decide⟩, fun k hk => absurd hk (Nat.not_lt_zero k), fun k hk => absurd hk (Nat.not_lt_zero k), fun k hk => absurd hk (Nat.not_lt_zero k)⟩, ⟨by decide, by decide⟩, by decide, fun q _ => ⟨Nat.zero_le _, Nat.zero_le _⟩, fun k hk => absurd hk (Nat.not_lt_zero k)⟩
  · exact fun p hp => absurd hp (Nat.not_lt_zero p)
  · refine ⟨⟨⟨⟨rfl, rfl, rfl, rfl⟩, fun k hk => absurd hk (Nat.not_lt_zero k), fun k hk => absurd hk (Nat.not_lt_zero k), fun k hk => absurd hk (Nat.not_lt_zero k)⟩, fun j _ _ => rfl, fun j _ => rfl⟩, ⟨rfl, rfl, rfl, rfl, rfl⟩, fun q _ => ⟨rfl, rfl⟩, fun k hk => absurd hk (Nat.not_lt_zero k), fun p _ hp => ?_⟩
    rcases (show p = 0 ∨ p = 1 ∨ p = 2 ∨ p = 3 ∨ p = 4 ∨ p = 5 ∨ p = 6 by omega) with rfl | rfl | rfl | rfl | rfl | rfl | rfl <;> exact ⟨rfl, rfl⟩
  · exact ⟨fun k hk => absurd hk (Nat.not_lt_zero k), Or.inl rfl, Or.inl rfl⟩
  · exact ⟨⟨⟨⟨rfl, rfl, rfl, rfl⟩, fun k hk => absurd hk (Nat.not_lt_zero k), fun k hk => absurd hk (Nat.not_lt_zero k), fun k hk => absurd hk (Nat.not_lt_zero k)⟩, rfl⟩, ⟨rfl, rfl, rfl, rfl, rfl⟩, fun q _ => ⟨rfl, rfl⟩, fun k hk => absurd hk (Nat.not_lt_zero k)⟩
  · exact ⟨fun k hk => absurd hk (Nat.not_lt_zero k), Or.inl rfl⟩
