/-! ===== the new objects ===== -/
section New
/-- what the constructors leave -/
def M0 : MT := (fun s f i => if f = 2 ∧ i = 0 then 12 else if f = 3 ∧ i = 0 then 5 else if f = 3 ∧ i = 2 then 40 else if f = 5 ∧ i = 0 then 1 else if (f = 12 ∨ f = 13) ∧ s < 5 then -1 else 0,
  fun c i => if c = 10 then -1 else if c = 32 ∧ i < 8 then -1 else 0, fun _ _ => 0)
theorem OKs_M0 {s : Nat} (hs : s < 5) : OKs M0 s := by
  have b0 : ∀ n, 0 < n → n ≤ 1000 → bd (0 : Int32) n := fun n h1 h2 => bd_nI (i := 0) h1 (by omega)
  refine ⟨b0 9 (by omega) (by omega), b0 9 (by omega) (by omega), ⟨show bd (12 : Int32) 31 from bd_lit (by decide), (by decide : 2 ≤ tn (12 : Int32))⟩, show bd (5 : Int32) 11 from bd_lit (by decide), b0 1000 (by omega) (by omega), show bd (40 : Int32) 1000 from bd_lit (by decide), fun p _ => b0 6 (by omega) (by omega), fun p _ => b0 31 (by omega) (by omega), fun w hw => absurd hw (Nat.not_lt_zero w), fun p hp => absurd hp (Nat.not_lt_zero p)⟩
theorem OKX_M0 : OKX M0 := by
  refine ⟨OKs_M0 (by decide), OKs_M0 (by decide), OKa_of (OKs_M0 (by decide)), OKa_of (OKs_M0 (by decide)), OKa_of (OKs_M0 (by decide)), fun t _ => ⟨show bd (0 : Int32) 41 from bd_nI (i := 0) (by decide) (by decide), show bd (0 : Int32) 5 from bd_nI (i := 0) (by decide) (by decide), Or.inl rfl, Or.inl rfl⟩, show bd (0 : Int32) 251 from bd_nI (i := 0) (by decide) (by decide)⟩
theorem R2_M0 : R2 M0 M0 := by
  refine ⟨⟨fun f h6 h3 => ?_, fun i hi => ?_, fun f w h6 h9 hw => absurd hw (Nat.not_lt_zero w), fun f p h9 h14 hp => absurd hp (Nat.not_lt_zero p)⟩, fun t ht => ⟨show bd (0 : Int32) 41 from bd_nI (i := 0) (by decide) (by decide), fun _ => ?_, fun z => absurd rfl z⟩, ⟨rfl, fun i hi => absurd hi (Nat.not_lt_zero i)⟩, fun j _ => rfl, rfl, fun z => absurd rfl z⟩
  · rcases (show f = 0 ∨ f = 1 ∨ f = 2 ∨ f = 4 ∨ f = 5 by omega) with rfl | rfl | rfl | rfl | rfl <;> rfl
  · rcases (show i = 0 ∨ i = 1 ∨ i = 2 by omega) with rfl | rfl | rfl <;> rfl
  · show (if 32 = 10 then (-1 : Int32) else if 32 = 32 ∧ t < 8 then -1 else 0) = if (-1 : Int32) = -1 then -1 else _
    rw [if_neg (by decide), if_pos ⟨rfl, ht⟩, if_pos rfl]
end New
section Words0
/-- the words of the tables hold at the law's entry -/
theorem law_words {p : Program} {s : State} {m : MethodId} {meth : Method} {c : Code} {b L : Nat} {xs : Nat → Int32} (C0 : lw_At p s m meth c b L xs) : ∀ w ∈ TW, w.before #[Value.ref b] s = true :=
  fun w hw => C0.2.2.2.2.2.1 w (List.mem_filter.mp hw).1
end Words0
