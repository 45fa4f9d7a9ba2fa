/-! ===== writes into the world; rows for each field, each array, each call ===== -/
def u1 (M : MT) (s f i : Nat) (v : Int32) : MT := (fun a b c => if a = s ∧ b = f ∧ c = i then v else M.1 a b c, M.2)
def u2 (M : MT) (c i : Nat) (v : Int32) : MT := (M.1, fun a b => if a = c ∧ b = i then v else M.2.1 a b, M.2.2)
def u3 (M : MT) (r i : Nat) (v : Int64) : MT := (M.1, M.2.1, fun a b => if a = r ∧ b = i then v else M.2.2 a b)
def own1 (s f i : Nat) : Nat := if s < 5 then (if f < 6 then 12 + s else if f < 9 then 60 + 8 * s + i else 100 + 8 * s + i) else if f = 3 then 141 else if f < 6 then 140 else 136 + f
def own2 (c i : Nat) : Nat := if c = 0 then 0 else if c = 1 then 1 else if c = 2 then 3 else if c = 3 then 4 else if c = 4 then 6 else if c = 5 then 8 else if c = 6 then 9 else if c = 7 then 10 else if c = 8 then 11 else if c < 11 then 27 + i else if c < 13 then 35 + i else if c < 22 then 38 + c else if c = 30 then 140 else if c < 34 then 119 + c else 120 + c
def own3 (r _i : Nat) : Nat := if r < 8 then 43 + r else 153
theorem own1_a {s f i : Nat} (h : s < 5) (hf : f < 6) : own1 s f i = 12 + s := by unfold own1; rw [if_pos h, if_pos hf]
theorem own1_b {s f i : Nat} (h : s < 5) (hf : ¬ f < 6) (hf2 : f < 9) : own1 s f i = 60 + 8 * s + i := by unfold own1; rw [if_pos h, if_neg hf, if_pos hf2]
theorem own1_c {s f i : Nat} (h : s < 5) (hf : ¬ f < 6) (hf2 : ¬ f < 9) : own1 s f i = 100 + 8 * s + i := by unfold own1; rw [if_pos h, if_neg hf, if_neg hf2]
theorem own2_t {t i : Nat} (h : t < 9) : own2 (13 + t) i = 51 + t := by
  have : t = 0 ∨ t = 1 ∨ t = 2 ∨ t = 3 ∨ t = 4 ∨ t = 5 ∨ t = 6 ∨ t = 7 ∨ t = 8 := by omega
  rcases this with rfl | rfl | rfl | rfl | rfl | rfl | rfl | rfl | rfl <;> rfl
theorem own3_a {r i : Nat} (h : r < 8) : own3 r i = 43 + r := by unfold own3; rw [if_pos h]
set_option maxHeartbeats 4000000 in
theorem mem_dep {K : KT} {M M' : MT} {j : Nat} (h1 : ∀ s f i, own1 s f i = j → M'.1 s f i = M.1 s f i) (h2 : ∀ c i, own2 c i = j → M'.2.1 c i = M.2.1 c i) (h3 : ∀ r i, own3 r i = j → M'.2.2 r i = M.2.2 r i) : mem K M' j = mem K M j := by
  unfold mem
  by_cases c : j = 0
  · rw [if_pos c, if_pos c]
    try dsimp only
    rw [h2 0 0 (Eq.trans (show own2 0 0 = 0 from rfl) (by omega))]
  rw [if_neg c, if_neg c]
  by_cases c : j = 1
  · rw [if_pos c, if_pos c]
    try dsimp only
    rw [show M'.2.1 1 = M.2.1 1 from funext fun i => h2 1 i (Eq.trans (show own2 1 i = 1 from rfl) (by omega))]
  rw [if_neg c, if_neg c]
  by_cases c : j = 2
  · rw [if_pos c, if_pos c]
  rw [if_neg c, if_neg c]
  by_cases c : j = 3
  · rw [if_pos c, if_pos c]
    try dsimp only
    rw [h2 2 0 (Eq.trans (show own2 2 0 = 3 from rfl) (by omega)), h2 2 1 (Eq.trans (show own2 2 1 = 3 from rfl) (by omega)), h2 2 2 (Eq.trans (show own2 2 2 = 3 from rfl) (by omega)), h2 2 3 (Eq.trans (show own2 2 3 = 3 from rfl) (by omega)), h2 2 4 (Eq.trans (show own2 2 4 = 3 from rfl) (by omega))]
  rw [if_neg c, if_neg c]
  by_cases c : j = 4
  · rw [if_pos c, if_pos c]
    try dsimp only
    rw [show M'.2.1 3 = M.2.1 3 from funext fun i => h2 3 i (Eq.trans (show own2 3 i = 4 from rfl) (by omega))]
  rw [if_neg c, if_neg c]
  by_cases c : j = 5
  · rw [if_pos c, if_pos c]
  rw [if_neg c, if_neg c]
  by_cases c : j = 6
  · rw [if_pos c, if_pos c]
    try dsimp only
    rw [show M'.2.1 4 = M.2.1 4 from funext fun i => h2 4 i (Eq.trans (show own2 4 i = 6 from rfl) (by omega))]
  rw [if_neg c, if_neg c]
  by_cases c : j = 7
  · rw [if_pos c, if_pos c]
  rw [if_neg c, if_neg c]
  by_cases c : j = 8
  · rw [if_pos c, if_pos c]
    try dsimp only
    rw [show M'.2.1 5 = M.2.1 5 from funext fun i => h2 5 i (Eq.trans (show own2 5 i = 8 from rfl) (by omega))]
  rw [if_neg c, if_neg c]
  by_cases c : j = 9
  · rw [if_pos c, if_pos c]
    try dsimp only
    rw [h2 6 0 (Eq.trans (show own2 6 0 = 9 from rfl) (by omega)), h2 6 1 (Eq.trans (show own2 6 1 = 9 from rfl) (by omega)), h2 6 2 (Eq.trans (show own2 6 2 = 9 from rfl) (by omega)), h2 6 3 (Eq.trans (show own2 6 3 = 9 from rfl) (by omega))]
  rw [if_neg c, if_neg c]
  by_cases c : j = 10
  · rw [if_pos c, if_pos c]
    try dsimp only
    rw [show M'.2.1 7 = M.2.1 7 from funext fun i => h2 7 i (Eq.trans (show own2 7 i = 10 from rfl) (by omega))]
  rw [if_neg c, if_neg c]
  by_cases c : j = 11
  · rw [if_pos c, if_pos c]
    try dsimp only
    rw [show M'.2.1 8 = M.2.1 8 from funext fun i => h2 8 i (Eq.trans (show own2 8 i = 11 from rfl) (by omega))]
  rw [if_neg c, if_neg c]
  by_cases c : 12 ≤ j ∧ j < 17
  · rw [if_pos c, if_pos c]
    try dsimp only
    rw [h1 (j - 12) 0 0 (Eq.trans (own1_a (by omega) (by decide)) (by omega)), h1 (j - 12) 1 0 (Eq.trans (own1_a (by omega) (by decide)) (by omega)), h1 (j - 12) 2 0 (Eq.trans (own1_a (by omega) (by decide)) (by omega)), h1 (j - 12) 3 0 (Eq.trans (own1_a (by omega) (by decide)) (by omega)), h1 (j - 12) 3 1 (Eq.trans (own1_a (by omega) (by decide)) (by omega)), h1 (j - 12) 3 2 (Eq.trans (own1_a (by omega) (by decide)) (by omega)), h1 (j - 12) 4 0 (Eq.trans (own1_a (by omega) (by decide)) (by omega)), h1 (j - 12) 5 0 (Eq.trans (own1_a (by omega) (by decide)) (by omega))]
  rw [if_neg c, if_neg c]
  by_cases c : 17 ≤ j ∧ j < 22
  · rw [if_pos c, if_pos c]
  rw [if_neg c, if_neg c]
  by_cases c : 22 ≤ j ∧ j < 27
  · rw [if_pos c, if_pos c]
  rw [if_neg c, if_neg c]
  by_cases c : 27 ≤ j ∧ j < 35
  · rw [if_pos c, if_pos c]
    try dsimp only
    rw [h2 9 (j - 27) (Eq.trans (show own2 9 (j - 27) = 27 + (j - 27) from rfl) (by omega)), h2 10 (j - 27) (Eq.trans (show own2 10 (j - 27) = 27 + (j - 27) from rfl) (by omega))]
  rw [if_neg c, if_neg c]
  by_cases c : 35 ≤ j ∧ j < 43
  · rw [if_pos c, if_pos c]
    try dsimp only
    rw [h2 11 (j - 35) (Eq.trans (show own2 11 (j - 35) = 35 + (j - 35) from rfl) (by omega)), h2 12 (j - 35) (Eq.trans (show own2 12 (j - 35) = 35 + (j - 35) from rfl) (by omega))]
  rw [if_neg c, if_neg c]
  by_cases c : 43 ≤ j ∧ j < 51
  · rw [if_pos c, if_pos c]
    try dsimp only
    rw [show M'.2.2 (j - 43) = M.2.2 (j - 43) from funext fun i => h3 (j - 43) i (Eq.trans (own3_a (by omega)) (by omega))]
  rw [if_neg c, if_neg c]
  by_cases c : 51 ≤ j ∧ j < 60
  · rw [if_pos c, if_pos c]
    try dsimp only
    rw [show M'.2.1 (13 + (j - 51)) = M.2.1 (13 + (j - 51)) from funext fun i => h2 (13 + (j - 51)) i (Eq.trans (own2_t (by omega)) (by omega))]
  rw [if_neg c, if_neg c]
  by_cases c : 60 ≤ j ∧ j < 100
  · rw [if_pos c, if_pos c]
    try dsimp only
    rw [h1 ((j - 60) / 8) 6 ((j - 60) % 8) (Eq.trans (own1_b (by omega) (by decide) (by decide)) (by omega)), h1 ((j - 60) / 8) 7 ((j - 60) % 8) (Eq.trans (own1_b (by omega) (by decide) (by decide)) (by omega)), h1 ((j - 60) / 8) 8 ((j - 60) % 8) (Eq.trans (own1_b (by omega) (by decide) (by decide)) (by omega))]
  rw [if_neg c, if_neg c]
  by_cases c : 100 ≤ j ∧ j < 140
  · rw [if_pos c, if_pos c]
    try dsimp only
    rw [h1 ((j - 100) / 8) 9 ((j - 100) % 8) (Eq.trans (own1_c (by omega) (by decide) (by decide)) (by omega)), h1 ((j - 100) / 8) 10 ((j - 100) % 8) (Eq.trans (own1_c (by omega) (by decide) (by decide)) (by omega)), h1 ((j - 100) / 8) 11 ((j - 100) % 8) (Eq.trans (own1_c (by omega) (by decide) (by decide)) (by omega)), h1 ((j - 100) / 8) 12 ((j - 100) % 8) (Eq.trans (own1_c (by omega) (by decide) (by decide)) (by omega)), h1 ((j - 100) / 8) 13 ((j - 100) % 8) (Eq.trans (own1_c (by omega) (by decide) (by decide)) (by omega))]
  rw [if_neg c, if_neg c]
  by_cases c : j = 140
  · rw [if_pos c, if_pos c]
    try dsimp only
    rw [h1 5 2 0 (Eq.trans (show own1 5 2 0 = 140 from rfl) (by omega)), h1 5 4 0 (Eq.trans (show own1 5 4 0 = 140 from rfl) (by omega)), h1 5 0 0 (Eq.trans (show own1 5 0 0 = 140 from rfl) (by omega)), h1 5 1 0 (Eq.trans (show own1 5 1 0 = 140 from rfl) (by omega)), h1 5 5 0 (Eq.trans (show own1 5 5 0 = 140 from rfl) (by omega)), h2 30 0 (Eq.trans (show own2 30 0 = 140 from rfl) (by omega)), h2 30 1 (Eq.trans (show own2 30 1 = 140 from rfl) (by omega)), h2 30 2 (Eq.trans (show own2 30 2 = 140 from rfl) (by omega)), h2 30 3 (Eq.trans (show own2 30 3 = 140 from rfl) (by omega)), h2 30 4 (Eq.trans (show own2 30 4 = 140 from rfl) (by omega)), h2 30 5 (Eq.trans (show own2 30 5 = 140 from rfl) (by omega)), h2 30 6 (Eq.trans (show own2 30 6 = 140 from rfl) (by omega))]
  rw [if_neg c, if_neg c]
  by_cases c : j = 141
  · rw [if_pos c, if_pos c]
    try dsimp only
    rw [show M'.1 5 3 = M.1 5 3 from funext fun i => h1 5 3 i (Eq.trans (show own1 5 3 i = 141 from rfl) (by omega))]
  rw [if_neg c, if_neg c]
  by_cases c : j = 142
  · rw [if_pos c, if_pos c]
    try dsimp only
    rw [show M'.1 5 6 = M.1 5 6 from funext fun i => h1 5 6 i (Eq.trans (show own1 5 6 i = 142 from rfl) (by omega))]
  rw [if_neg c, if_neg c]
  by_cases c : j = 143
  · rw [if_pos c, if_pos c]
    try dsimp only
    rw [show M'.1 5 7 = M.1 5 7 from funext fun i => h1 5 7 i (Eq.trans (show own1 5 7 i = 143 from rfl) (by omega))]
  rw [if_neg c, if_neg c]
  by_cases c : j = 144
  · rw [if_pos c, if_pos c]
    try dsimp only
    rw [show M'.1 5 8 = M.1 5 8 from funext fun i => h1 5 8 i (Eq.trans (show own1 5 8 i = 144 from rfl) (by omega))]
  rw [if_neg c, if_neg c]
  by_cases c : j = 145
  · rw [if_pos c, if_pos c]
    try dsimp only
    rw [show M'.1 5 9 = M.1 5 9 from funext fun i => h1 5 9 i (Eq.trans (show own1 5 9 i = 145 from rfl) (by omega))]
  rw [if_neg c, if_neg c]
  by_cases c : j = 146
  · rw [if_pos c, if_pos c]
    try dsimp only
    rw [show M'.1 5 10 = M.1 5 10 from funext fun i => h1 5 10 i (Eq.trans (show own1 5 10 i = 146 from rfl) (by omega))]
  rw [if_neg c, if_neg c]
  by_cases c : j = 147
  · rw [if_pos c, if_pos c]
    try dsimp only
    rw [show M'.1 5 11 = M.1 5 11 from funext fun i => h1 5 11 i (Eq.trans (show own1 5 11 i = 147 from rfl) (by omega))]
  rw [if_neg c, if_neg c]
  by_cases c : j = 148
  · rw [if_pos c, if_pos c]
    try dsimp only
    rw [show M'.1 5 12 = M.1 5 12 from funext fun i => h1 5 12 i (Eq.trans (show own1 5 12 i = 148 from rfl) (by omega))]
  rw [if_neg c, if_neg c]
  by_cases c : j = 149
  · rw [if_pos c, if_pos c]
    try dsimp only
    rw [show M'.1 5 13 = M.1 5 13 from funext fun i => h1 5 13 i (Eq.trans (show own1 5 13 i = 149 from rfl) (by omega))]
  rw [if_neg c, if_neg c]
  by_cases c : j = 150
  · rw [if_pos c, if_pos c]
    try dsimp only
    rw [show M'.2.1 31 = M.2.1 31 from funext fun i => h2 31 i (Eq.trans (show own2 31 i = 150 from rfl) (by omega))]
  rw [if_neg c, if_neg c]
  by_cases c : j = 151
  · rw [if_pos c, if_pos c]
    try dsimp only
    rw [show M'.2.1 32 = M.2.1 32 from funext fun i => h2 32 i (Eq.trans (show own2 32 i = 151 from rfl) (by omega))]
  rw [if_neg c, if_neg c]
  by_cases c : j = 152
  · rw [if_pos c, if_pos c]
    try dsimp only
    rw [show M'.2.1 33 = M.2.1 33 from funext fun i => h2 33 i (Eq.trans (show own2 33 i = 152 from rfl) (by omega))]
  rw [if_neg c, if_neg c]
  by_cases c : j = 153
  · rw [if_pos c, if_pos c]
    try dsimp only
    rw [show M'.2.2 8 = M.2.2 8 from funext fun i => h3 8 i (Eq.trans (show own3 8 i = 153 from rfl) (by omega))]
  rw [if_neg c, if_neg c]
  by_cases c : j = 154
  · rw [if_pos c, if_pos c]
    try dsimp only
    rw [show M'.2.1 34 = M.2.1 34 from funext fun i => h2 34 i (Eq.trans (show own2 34 i = 154 from rfl) (by omega))]
  rw [if_neg c, if_neg c]
  by_cases c : j = 155
  · rw [if_pos c, if_pos c]
    try dsimp only
    rw [show M'.2.1 35 = M.2.1 35 from funext fun i => h2 35 i (Eq.trans (show own2 35 i = 155 from rfl) (by omega))]
  rw [if_neg c, if_neg c]
  by_cases c : j = 156
  · rw [if_pos c, if_pos c]
    try dsimp only
    rw [show M'.2.1 36 = M.2.1 36 from funext fun i => h2 36 i (Eq.trans (show own2 36 i = 156 from rfl) (by omega))]
  rw [if_neg c, if_neg c]
  by_cases c : j = 157
  · rw [if_pos c, if_pos c]
    try dsimp only
    rw [show M'.2.1 37 = M.2.1 37 from funext fun i => h2 37 i (Eq.trans (show own2 37 i = 157 from rfl) (by omega))]
  rw [if_neg c, if_neg c]
  by_cases c : j = 158
  · rw [if_pos c, if_pos c]
    try dsimp only
    rw [show M'.2.1 38 = M.2.1 38 from funext fun i => h2 38 i (Eq.trans (show own2 38 i = 158 from rfl) (by omega))]
  rw [if_neg c, if_neg c]
  by_cases c : j = 159
  · rw [if_pos c, if_pos c]
    try dsimp only
    rw [show M'.2.1 39 = M.2.1 39 from funext fun i => h2 39 i (Eq.trans (show own2 39 i = 159 from rfl) (by omega))]
  rw [if_neg c, if_neg c]
  by_cases c : j = 160
  · rw [if_pos c, if_pos c]
    try dsimp only
    rw [show M'.2.1 40 = M.2.1 40 from funext fun i => h2 40 i (Eq.trans (show own2 40 i = 160 from rfl) (by omega))]
  rw [if_neg c, if_neg c]
theorem set1 {K : KT} {M : MT} {s f i id : Nat} {v : Int32} {e : va_E} (ho : own1 s f i = id) (he : mem K (u1 M s f i v) id = e) : ∀ j, j < 161 → mem K (u1 M s f i v) j = if j = id then e else mem K M j := by
  intro j _
  by_cases hj : j = id
  · rw [if_pos hj, hj, he]
  · rw [if_neg hj]
    exact mem_dep (fun a b c q => if_neg (fun z => hj (by rw [← q, z.1, z.2.1, z.2.2, ho]))) (fun _ _ _ => rfl) (fun _ _ _ => rfl)
theorem set2 {K : KT} {M : MT} {c i id : Nat} {v : Int32} {e : va_E} (ho : own2 c i = id) (he : mem K (u2 M c i v) id = e) : ∀ j, j < 161 → mem K (u2 M c i v) j = if j = id then e else mem K M j := by
  intro j _
  by_cases hj : j = id
  · rw [if_pos hj, hj, he]
  · rw [if_neg hj]
    exact mem_dep (fun _ _ _ _ => rfl) (fun a b q => if_neg (fun z => hj (by rw [← q, z.1, z.2, ho]))) (fun _ _ _ => rfl)
theorem set3 {K : KT} {M : MT} {r i id : Nat} {v : Int64} {e : va_E} (ho : own3 r i = id) (he : mem K (u3 M r i v) id = e) : ∀ j, j < 161 → mem K (u3 M r i v) j = if j = id then e else mem K M j := by
  intro j _
  by_cases hj : j = id
  · rw [if_pos hj, hj, he]
  · rw [if_neg hj]
    exact mem_dep (fun _ _ _ _ => rfl) (fun _ _ _ => rfl) (fun a b q => if_neg (fun z => hj (by rw [← q, z.1, z.2, ho])))
