/-! ===== the judgement over worlds of one shape: rows for the instructions ===== -/
def aK (K : KT) : Nat → Prop := fun q => ∃ k, k < 161 ∧ q = ad K k
def inj (K : KT) : Prop := ∀ i j : Nat, i < 161 → j < 161 → ad K i = ad K j → i = j
def tysK (K : KT) : List (ClassId × FieldType) := [(K.2.1 0, .int), (K.2.1 1, .long), (K.2.1 2, .object RX7), (K.2.1 3, .object RX2), (K.2.1 4, .object RX4), (K.2.1 5, .array .int)]
theorem wd_D {K : KT} (h : inj K) (M : MT) : va_D (aK K) (wd K M) := by
  have key : ∀ (i : Nat) (p : Nat × va_E), (wd K M)[i]? = some p → i < 161 ∧ p.1 = ad K i := by
    intro i p hp
    have hi : i < 161 := by
      have := (List.getElem?_eq_some_iff.mp hp).1
      simpa [wd] using this
    rw [wd_at K M hi rfl] at hp
    exact ⟨hi, by rw [← Option.some.inj hp]⟩
  refine ⟨fun i j p q hp hq e => ?_, fun k q hq => ?_⟩
  · obtain ⟨hi, e1⟩ := key i p hp
    obtain ⟨hj, e2⟩ := key j q hq
    exact h i j hi hj (by rw [← e1, ← e2, e])
  · obtain ⟨hk, e1⟩ := key k q hq
    exact ⟨k, hk, e1⟩
/-- what stays as it is from the launch on: static arrays, nest mates' words, String constants -/
def tKA : Nat → Int32 := fun j => [(-1 : Int32), 0, 0, 1, 2, 0].getD j 0
def tRK : Nat → Int32 := fun j => [(1 : Int32), 0, 2, 0, 3, 1].getD j 0
def tNB : Nat → Int32 := fun j => [(1 : Int32), 3, 3, 2, 1, 1, 1].getD j 0
def kTab : List (String × String × Nat × Nat × (Nat → Int32)) := [(RX8, "KIND_ABOVE", 200, 6, tKA), (RX8, "REACH_OF_KIND", 201, 6, tRK), (RX6, "NUMBERS_BEHIND", 202, 7, tNB)]
theorem k_KA : (RX8, "KIND_ABOVE", 200, 6, tKA) ∈ kTab := List.mem_cons_self
theorem k_RK : (RX8, "REACH_OF_KIND", 201, 6, tRK) ∈ kTab := List.mem_cons_of_mem _ List.mem_cons_self
theorem k_NB : (RX6, "NUMBERS_BEHIND", 202, 7, tNB) ∈ kTab := List.mem_cons_of_mem _ (List.mem_cons_of_mem _ List.mem_cons_self)
def kText : List (String × List Int32) := [("cells", [99, 101, 108, 108, 115]), ("window", [119, 105, 110, 100, 111, 119]), ("person", [112, 101, 114, 115, 111, 110]), ("at", [97, 116]), ("wind", [119, 105, 110, 100]), ("day", [100, 97, 121]), ("lent", [108, 101, 110, 116])]
def kTx (i : Nat) : List Int32 := ((kText[i]?).map (·.2)).getD []
def kNest : List Cond := [.methodLinkNest RX3 19 yX8_within RX8, .methodLinkNest RX5 57 yX8_within RX8, .methodLinkNest RX6 63 yX8_within RX8, .methodLinkNest RX5 104 yX8_slowness RX8, .fieldLinkNest RX2 27 RX8 "KIND_ABOVE" "[I" RX8, .fieldLinkNest RX2 31 RX8 "REACH_OF_KIND" "[I" RX8]
/-- a String constant's entries: class, entry, which text -/
def kStr : List (String × Nat × Nat) := [(RX6, 78, 0), (RX6, 84, 1), (RX6, 86, 2), (RX6, 88, 3), (RX6, 90, 4), (RX6, 92, 5), (RX6, 94, 6), (RX9, 185, 0), (RX9, 170, 1), (RX9, 180, 2), (RX9, 187, 3), (RX9, 188, 4), (RX9, 190, 5), (RX9, 192, 6)]
def St (K : KT) (A : Nat → Prop) (U : State) (H : Heap) : Prop :=
  (∀ q ∈ kTab, va_Z q.1 q.2.1 "[I" (.ref (ad K q.2.2.1)) A U H ∧ va_T .int (ad K q.2.2.1) q.2.2.2.1 (fun j => .int (q.2.2.2.2 j)) A U H) ∧
  (∀ w ∈ kNest, va_Nw w U) ∧
  (∀ q ∈ kStr, vk_R q.1 q.2.1 ((kText[q.2.2]?).map (·.1) |>.getD "") (ad K (210 + q.2.2)) U) ∧
  vk_S 7 (kText.map (fun q => q.2.length)) (kText.map (·.2)) (fun i => ad K (210 + i)) K.2.2.2 A U H ∧
  va_Z RJ0 "COMPACT_STRINGS" "Z" (.int 1) A U H ∧ va_Zq RJ3 "SIOOBE_FORMATTER" "Ljava/util/function/BiFunction;" A U H
theorem St.warm {K : KT} {A : Nat → Prop} {s U : State} {H : Heap} (h : St K A s s.heap) (hW : s.WarmedH U.vm) (hH : ∀ a : Nat, a < s.heap.size → ¬ A a → H[a]? = s.heap[a]?) : St K A U H := by
  obtain ⟨h1, h2, h3, h4, h5, h6⟩ := h
  refine ⟨fun q hq => ⟨((h1 q hq).1.moved hW.alike).kept hH, ((h1 q hq).2.moved hW.alike).kept hH⟩, fun w hw => ?_, fun q hq => (h3 q hq).warm hW, (h4.moved hW.alike).kept hH, (h5.moved hW.alike).kept hH, (h6.moved hW.alike).kept hH⟩
  have hz := h2 w hw
  simp only [kNest, List.mem_cons, List.not_mem_nil, or_false] at hw
  rcases hw with rfl | rfl | rfl | rfl | rfl | rfl
  · exact va_Nw.warmM hW hz
  · exact va_Nw.warmM hW hz
  · exact va_Nw.warmM hW hz
  · exact va_Nw.warmM hW hz
  · exact va_Nw.warmF hW hz
  · exact va_Nw.warmF hW hz
theorem St.same {K : KT} {A : Nat → Prop} {u U : State} (h : St K A u u.heap) (hv : u.vm = U.vm) (hH : U.heap = u.heap) : St K A U U.heap := by
  obtain ⟨h1, h2, h3, h4, h5, h6⟩ := h
  have hal : u.vm.Alike U.vm := by rw [hv]; exact Vm.Alike.refl U.vm
  rw [hH]
  refine ⟨fun q hq => ⟨(h1 q hq).1.moved hal, (h1 q hq).2.moved hal⟩, fun w hw => ?_, fun q hq => (h3 q hq).same hv.symm, h4.moved hal, h5.moved hal, h6.moved hal⟩
  have hz := h2 w hw
  simp only [kNest, List.mem_cons, List.not_mem_nil, or_false] at hw
  rcases hw with rfl | rfl | rfl | rfl | rfl | rfl <;> exact va_Nw.same rfl hv hz
abbrev GT : Type := Program × Launch × Env × Room × State × MethodId × Array Value × List Frame × Method × Code × Nat × Nat × (State → Prop) × Nat
abbrev gP (G : GT) := G.1
abbrev gL (G : GT) := G.2.1
abbrev gE (G : GT) := G.2.2.1
abbrev gR (G : GT) := G.2.2.2.1
abbrev gS (G : GT) := G.2.2.2.2.1
abbrev gM (G : GT) := G.2.2.2.2.2.1
abbrev gA (G : GT) := G.2.2.2.2.2.2.1
abbrev gB (G : GT) := G.2.2.2.2.2.2.2.1
abbrev gH (G : GT) := G.2.2.2.2.2.2.2.2.1
abbrev gC (G : GT) := G.2.2.2.2.2.2.2.2.2.1
abbrev gK (G : GT) := G.2.2.2.2.2.2.2.2.2.2.1
abbrev gO (G : GT) := G.2.2.2.2.2.2.2.2.2.2.2.1
abbrev gQ (G : GT) := G.2.2.2.2.2.2.2.2.2.2.2.2.1
abbrev gN (G : GT) := G.2.2.2.2.2.2.2.2.2.2.2.2.2
def asc : Nat → List (Option Value) → List (Nat × Value)
  | _, [] => []
  | i, none :: t => asc (i + 1) t
  | i, some v :: t => (i, v) :: asc (i + 1) t
theorem asc_mem {ls : List (Option Value)} : ∀ (i k : Nat) (v : Value), ls[k]? = some (some v) → (i + k, v) ∈ asc i ls := by
  induction ls with
  | nil => intro i k v h; simp at h
  | cons x t ih =>
    intro i k v h
    cases k with
    | zero =>
      simp at h
      subst h
      simp [asc]
    | succ k =>
      have h2 : t[k]? = some (some v) := by simpa using h
      have h3 := ih (i + 1) k v h2
      rw [show i + 1 + k = i + (k + 1) by omega] at h3
      cases x with
      | none => simpa [asc] using h3
      | some y => simp only [asc]; exact List.mem_cons_of_mem _ h3
theorem asc_at {ls : List (Option Value)} : ∀ (i : Nat) (q : Nat × Value), q ∈ asc i ls → ∃ k, q.1 = i + k ∧ ls[k]? = some (some q.2) := by
  induction ls with
  | nil => intro i q h; simp [asc] at h
  | cons x t ih =>
    intro i q h
    cases x with
    | none =>
      simp only [asc] at h
      obtain ⟨k, h1, h2⟩ := ih (i + 1) q h
      exact ⟨k + 1, by omega, by simpa using h2⟩
    | some y =>
      simp only [asc, List.mem_cons] at h
      rcases h with rfl | h
      · exact ⟨0, by simp, by simp⟩
      · obtain ⟨k, h1, h2⟩ := ih (i + 1) q h
        exact ⟨k + 1, by omega, by simpa using h2⟩
/-- place k may be written: it is there, and no long ends in it -/
def okp (ls : List (Option Value)) (k : Nat) : Bool := Nat.blt k ls.length && (match k with
  | 0 => true
  | j + 1 => match ls[j]? with
    | some (some (.long _)) => false
    | some (some (.double _)) => false
    | _ => true)
theorem okp_lt {ls : List (Option Value)} {k : Nat} (h : okp ls k = true) : k < ls.length := by
  simp only [okp, Bool.and_eq_true] at h
  simpa using h.1
theorem okp_cat {ls : List (Option Value)} {k j : Nat} {v : Value} (h : okp ls k = true) (hj : j + 1 = k) (hv : ls[j]? = some (some v)) : ¬ v.category = 2 := by
  subst hj
  simp only [okp, Bool.and_eq_true] at h
  have h2 := h.2
  rw [hv] at h2
  cases v <;> simp_all [Value.category]
theorem has_set {lc : Array Slot} {n : Nat} {ls : List (Option Value)} {k : Nat} {v : Value} (ho : okp ls k = true) (h : lv_has lc n ((k, v) :: (asc 0 ls).filter (fun q => !(q.1 == k) && !(q.1 + 1 == k && q.2.category == 2)))) : lv_has lc n (asc 0 (ls.set k (some v))) := by
  refine ⟨h.1, h.2.1, fun q hq => h.2.2 q ?_⟩
  obtain ⟨j, h1, h2⟩ := asc_at 0 q hq
  rw [Nat.zero_add] at h1
  rw [List.getElem?_set] at h2
  by_cases hj : k = j
  · rw [if_pos hj] at h2
    have hlt := okp_lt ho
    rw [if_pos (by omega)] at h2
    have e : q.2 = v := by simpa using h2.symm
    have : q = (k, v) := by rw [← e, hj, ← h1]
    rw [this]
    exact List.mem_cons_self
  · rw [if_neg hj] at h2
    refine List.mem_cons_of_mem _ (List.mem_filter.mpr ⟨?_, ?_⟩)
    · have := asc_mem 0 j q.2 h2
      rw [Nat.zero_add, ← h1] at this
      exact this
    · rw [h1]
      simp only [Bool.and_eq_true, Bool.not_eq_true', beq_eq_false_iff_ne, Bool.and_eq_false_iff]
      refine ⟨fun e => hj e.symm, ?_⟩
      by_cases hk : j + 1 = k
      · exact Or.inr (okp_cat ho hk h2)
      · exact Or.inl hk
theorem has_set2 {lc : Array Slot} {n : Nat} {ls : List (Option Value)} {k : Nat} {v : Value} (ho : okp ls k = true) (ho2 : k + 1 < ls.length) (h : lv_has lc n ((k, v) :: (asc 0 ls).filter (fun q => !(q.1 == k) && (!(q.1 == k + 1) && !(q.1 + 1 == k && q.2.category == 2))))) : lv_has lc n (asc 0 ((ls.set k (some v)).set (k + 1) none)) := by
  refine ⟨h.1, h.2.1, fun q hq => h.2.2 q ?_⟩
  obtain ⟨j, h1, h2⟩ := asc_at 0 q hq
  rw [Nat.zero_add] at h1
  rw [List.getElem?_set] at h2
  by_cases hj1 : k + 1 = j
  · rw [if_pos hj1] at h2
    rw [if_pos (by simp; omega)] at h2
    simp at h2
  · rw [if_neg hj1, List.getElem?_set] at h2
    by_cases hj : k = j
    · rw [if_pos hj] at h2
      have hlt := okp_lt ho
      rw [if_pos (by omega)] at h2
      have e : q.2 = v := by simpa using h2.symm
      have : q = (k, v) := by rw [← e, hj, ← h1]
      rw [this]
      exact List.mem_cons_self
    · rw [if_neg hj] at h2
      refine List.mem_cons_of_mem _ (List.mem_filter.mpr ⟨?_, ?_⟩)
      · have := asc_mem 0 j q.2 h2
        rw [Nat.zero_add, ← h1] at this
        exact this
      · rw [h1]
        simp only [Bool.and_eq_true, Bool.not_eq_true', beq_eq_false_iff_ne, Bool.and_eq_false_iff]
        refine ⟨fun e => hj e.symm, fun e => hj1 e.symm, ?_⟩
        by_cases hk : j + 1 = k
        · exact Or.inr (okp_cat ho hk h2)
        · exact Or.inl hk
/-- from every machine that holds the world M: the frame at pc with these locals and this stack comes to its end -/
def J (G : GT) (K : KT) (M : MT) (pc : Nat) (ls : List (Option Value)) (st : List Value) : Prop :=
  ls.length ≤ gN G → ∀ (H : Heap) (locs : List Loc) (lc : Array Slot), va_P K.1 vwCl (wd K M) H → va_S (aK K) (gS G).heap H locs → lv_has lc (gN G) (asc 0 ls) →
    W (gP G) (gL G) (gE G) (gR G) (gS G) (gM G) (gA G) (gB G) (gH G) (gC G) H locs (gK G) (gO G) (gQ G) (F0 (gM G) pc lc st)
/-- what is so for a whole frame -/
def GF (G : GT) (K : KT) (own : String) (cc : ByteArray) (d : Nat) : Prop :=
  (gP G).tables.exec = Jvm.exec ∧ (gC G).code = cc ∧ (gC G).maxLocals = gN G ∧ (gS G).vm.findClass own = some (gM G).cls ∧ (∀ w ∈ TW, w.before (gA G) (gS G) = true) ∧ va_K K.1 vwCl (tysK K) (gS G) ∧ inj K ∧ St K (aK K) (gS G) (gS G).heap ∧ (d ≤ (gR G).frames ∧ 40 * d ≤ (gR G).locals) ∧ gK G ≤ (gR G).cells ∧ gO G ≤ (gR G).slots
def ix (i : Int32) (n j : Nat) : Prop := vp_in i n ∧ i.toNatClampNeg = j ∧ j < n
theorem ix_nI {j n : Nat} (h : j < n) (hn : n < 2 ^ 31) : ix (nI j) n j := ⟨vp_in_nI h hn, nI_clamp (Nat.lt_trans h hn), h⟩
section Rows
variable {G : GT} {K : KT} {M : MT} {own : String} {cc : ByteArray} {d pc : Nat} {ls : List (Option Value)} {st : List Value}
theorem has_at {lc : Array Slot} {n k : Nat} {v : Value} {ls : List (Option Value)} (h : lv_has lc n (asc 0 ls)) (hx : ls[k]? = some (some v)) : lc[k]? = some (.val v) := by
  have h2 := h.2.2 _ (asc_mem 0 k v hx)
  simpa using h2
theorem r_iconst {n : Int} {v : Int32} (hG : GF G K own cc d) (hd : decode cc pc = .ok (.iconst n, 1)) (hv : Int32.ofInt n = v) (k : J G K M (pc + 1) ls (.int v :: st)) : J G K M pc ls (st) :=
  fun hn H locs lc hP hS hl => lv_iconst hG.1 hG.2.1 hd hv (k hn H locs lc hP hS hl)
theorem r_bipush {n : Int} {v : Int32} (hG : GF G K own cc d) (hd : decode cc pc = .ok (.bipush n, 2)) (hv : (Int8.ofInt n).toInt32 = v) (k : J G K M (pc + 2) ls (.int v :: st)) : J G K M pc ls (st) :=
  fun hn H locs lc hP hS hl => lv_bipush hG.1 hG.2.1 hd hv (k hn H locs lc hP hS hl)
theorem r_sipush {n : Int} {v : Int32} (hG : GF G K own cc d) (hd : decode cc pc = .ok (.sipush n, 3)) (hv : (Int16.ofInt n).toInt32 = v) (k : J G K M (pc + 3) ls (.int v :: st)) : J G K M pc ls (st) :=
  fun hn H locs lc hP hS hl => lv_sipush hG.1 hG.2.1 hd hv (k hn H locs lc hP hS hl)
theorem r_lconst {n : Fin 2} {v : Int64} (hG : GF G K own cc d) (hd : decode cc pc = .ok (.lconst n, 1)) (hv : Int64.ofNat (n : Nat) = v) (k : J G K M (pc + 1) ls (.long v :: st)) : J G K M pc ls (st) :=
  fun hn H locs lc hP hS hl => lv_lconst hG.1 hG.2.1 hd hv (k hn H locs lc hP hS hl)
theorem r_iload_n {i : Fin 4} {x : Int32} (hG : GF G K own cc d) (hd : decode cc pc = .ok (.iload_n i, 1)) (hx : ls[(i : Nat)]? = some (some (.int x))) (k : J G K M (pc + 1) ls (.int x :: st)) : J G K M pc ls (st) :=
  fun hn H locs lc hP hS hl => lv_iload_n hG.1 hG.2.1 hd rfl (has_at hl hx) (k hn H locs lc hP hS hl)
theorem r_iload {i : Nat} {x : Int32} (hG : GF G K own cc d) (hd : decode cc pc = .ok (.iload i, 2)) (hx : ls[i]? = some (some (.int x))) (k : J G K M (pc + 2) ls (.int x :: st)) : J G K M pc ls (st) :=
  fun hn H locs lc hP hS hl => lv_iload hG.1 hG.2.1 hd (has_at hl hx) (k hn H locs lc hP hS hl)
theorem r_lload_n {i : Fin 4} {x : Int64} (hG : GF G K own cc d) (hd : decode cc pc = .ok (.lload_n i, 1)) (hx : ls[(i : Nat)]? = some (some (.long x))) (k : J G K M (pc + 1) ls (.long x :: st)) : J G K M pc ls (st) :=
  fun hn H locs lc hP hS hl => lv_lload_n hG.1 hG.2.1 hd rfl (has_at hl hx) (k hn H locs lc hP hS hl)
theorem r_lload {i : Nat} {x : Int64} (hG : GF G K own cc d) (hd : decode cc pc = .ok (.lload i, 2)) (hx : ls[i]? = some (some (.long x))) (k : J G K M (pc + 2) ls (.long x :: st)) : J G K M pc ls (st) :=
  fun hn H locs lc hP hS hl => lv_lload hG.1 hG.2.1 hd (has_at hl hx) (k hn H locs lc hP hS hl)
theorem r_aload_n {i : Fin 4} {x : Nat} (hG : GF G K own cc d) (hd : decode cc pc = .ok (.aload_n i, 1)) (hx : ls[(i : Nat)]? = some (some (rf K x))) (k : J G K M (pc + 1) ls (rf K x :: st)) : J G K M pc ls (st) :=
  fun hn H locs lc hP hS hl => lv_aload_n hG.1 hG.2.1 hd rfl (has_at hl hx) (k hn H locs lc hP hS hl)
theorem r_aload {i : Nat} {x : Nat} (hG : GF G K own cc d) (hd : decode cc pc = .ok (.aload i, 2)) (hx : ls[i]? = some (some (rf K x))) (k : J G K M (pc + 2) ls (rf K x :: st)) : J G K M pc ls (st) :=
  fun hn H locs lc hP hS hl => lv_aload hG.1 hG.2.1 hd (has_at hl hx) (k hn H locs lc hP hS hl)
theorem r_aloadR {i : Fin 4} {x : Nat} (hG : GF G K own cc d) (hd : decode cc pc = .ok (.aload_n i, 1)) (hx : ls[(i : Nat)]? = some (some (.ref x))) (k : J G K M (pc + 1) ls (.ref x :: st)) : J G K M pc ls (st) := fun hn H locs lc hP hS hl => lv_aload_n hG.1 hG.2.1 hd rfl (has_at hl hx) (k hn H locs lc hP hS hl)
theorem r_istore_n {i : Fin 4} {x : Int32} {ls' : List (Option Value)} (hG : GF G K own cc d) (hd : decode cc pc = .ok (.istore_n i, 1)) (ho : okp ls (i : Nat) = true) (hs : ls.set (i : Nat) (some (.int x)) = ls') (k : J G K M (pc + 1) ls' st) : J G K M pc ls (.int x :: st) :=
  fun hn H locs lc hP hS hl => lv_istore_n hG.1 hG.2.1 hd rfl hl (Nat.lt_of_lt_of_le (okp_lt ho) hn) rfl (fun lc' h' => k (by rw [← hs, List.length_set]; exact hn) H locs lc' hP hS (hs ▸ has_set ho h'))
theorem r_istore {i : Nat} {x : Int32} {ls' : List (Option Value)} (hG : GF G K own cc d) (hd : decode cc pc = .ok (.istore i, 2)) (ho : okp ls i = true) (hs : ls.set i (some (.int x)) = ls') (k : J G K M (pc + 2) ls' st) : J G K M pc ls (.int x :: st) :=
  fun hn H locs lc hP hS hl => lv_istore hG.1 hG.2.1 hd hl (Nat.lt_of_lt_of_le (okp_lt ho) hn) rfl (fun lc' h' => k (by rw [← hs, List.length_set]; exact hn) H locs lc' hP hS (hs ▸ has_set ho h'))
theorem r_astore_n {i : Fin 4} {x : Nat} {ls' : List (Option Value)} (hG : GF G K own cc d) (hd : decode cc pc = .ok (.astore_n i, 1)) (ho : okp ls (i : Nat) = true) (hs : ls.set (i : Nat) (some (rf K x)) = ls') (k : J G K M (pc + 1) ls' st) : J G K M pc ls (rf K x :: st) :=
  fun hn H locs lc hP hS hl => lv_astore_n hG.1 hG.2.1 hd rfl hl (Nat.lt_of_lt_of_le (okp_lt ho) hn) rfl (fun lc' h' => k (by rw [← hs, List.length_set]; exact hn) H locs lc' hP hS (hs ▸ has_set ho h'))
theorem r_astore {i : Nat} {x : Nat} {ls' : List (Option Value)} (hG : GF G K own cc d) (hd : decode cc pc = .ok (.astore i, 2)) (ho : okp ls i = true) (hs : ls.set i (some (rf K x)) = ls') (k : J G K M (pc + 2) ls' st) : J G K M pc ls (rf K x :: st) :=
  fun hn H locs lc hP hS hl => lv_astore hG.1 hG.2.1 hd hl (Nat.lt_of_lt_of_le (okp_lt ho) hn) rfl (fun lc' h' => k (by rw [← hs, List.length_set]; exact hn) H locs lc' hP hS (hs ▸ has_set ho h'))
theorem r_lstore_n {i : Fin 4} {x : Int64} {ls' : List (Option Value)} (hG : GF G K own cc d) (hd : decode cc pc = .ok (.lstore_n i, 1)) (ho : okp ls (i : Nat) = true) (ho2 : (i : Nat) + 1 < ls.length) (hs : (ls.set (i : Nat) (some (.long x))).set ((i : Nat) + 1) none = ls') (k : J G K M (pc + 1) ls' st) : J G K M pc ls (.long x :: st) :=
  fun hn H locs lc hP hS hl => lv_lstore_n hG.1 hG.2.1 hd rfl hl (Nat.lt_of_lt_of_le ho2 hn) rfl (fun lc' h' => k (by rw [← hs, List.length_set, List.length_set]; exact hn) H locs lc' hP hS (hs ▸ has_set2 ho ho2 h'))
theorem r_lstore {i : Nat} {x : Int64} {ls' : List (Option Value)} (hG : GF G K own cc d) (hd : decode cc pc = .ok (.lstore i, 2)) (ho : okp ls i = true) (ho2 : i + 1 < ls.length) (hs : (ls.set i (some (.long x))).set (i + 1) none = ls') (k : J G K M (pc + 2) ls' st) : J G K M pc ls (.long x :: st) :=
  fun hn H locs lc hP hS hl => lv_lstore hG.1 hG.2.1 hd hl (Nat.lt_of_lt_of_le ho2 hn) rfl (fun lc' h' => k (by rw [← hs, List.length_set, List.length_set]; exact hn) H locs lc' hP hS (hs ▸ has_set2 ho ho2 h'))
theorem r_iinc {i : Nat} {n : Int} {x v : Int32} {ls' : List (Option Value)} (hG : GF G K own cc d) (hd : decode cc pc = .ok (.iinc i n, 3)) (hx : ls[i]? = some (some (.int x))) (hv : x + Int32.ofInt n = v) (ho : okp ls i = true) (hs : ls.set i (some (.int v)) = ls') (k : J G K M (pc + 3) ls' st) : J G K M pc ls st := by
  intro hn H locs lc hP hS hl
  obtain ⟨j, hj⟩ := List.getElem?_of_mem (asc_mem 0 i (.int x) hx)
  exact lv_iinc hG.1 hG.2.1 hd hl (k := j) (by rw [hj, Nat.zero_add]) hv (Nat.lt_of_lt_of_le (okp_lt ho) hn) rfl (fun lc' h' => k (by rw [← hs, List.length_set]; exact hn) H locs lc' hP hS (hs ▸ has_set ho h'))
theorem r_iadd {x y : Int32} (hG : GF G K own cc d) (hd : decode cc pc = .ok (.iadd, 1)) (k : J G K M (pc + 1) ls (.int (x + y) :: st)) : J G K M pc ls (.int y :: .int x :: st) :=
  fun hn H locs lc hP hS hl => lv_iadd hG.1 hG.2.1 hd (k hn H locs lc hP hS hl)
theorem r_isub {x y : Int32} (hG : GF G K own cc d) (hd : decode cc pc = .ok (.isub, 1)) (k : J G K M (pc + 1) ls (.int (x - y) :: st)) : J G K M pc ls (.int y :: .int x :: st) :=
  fun hn H locs lc hP hS hl => lv_isub hG.1 hG.2.1 hd (k hn H locs lc hP hS hl)
theorem r_imul {x y : Int32} (hG : GF G K own cc d) (hd : decode cc pc = .ok (.imul, 1)) (k : J G K M (pc + 1) ls (.int (x * y) :: st)) : J G K M pc ls (.int y :: .int x :: st) :=
  fun hn H locs lc hP hS hl => lv_imul hG.1 hG.2.1 hd (k hn H locs lc hP hS hl)
theorem r_iand {x y : Int32} (hG : GF G K own cc d) (hd : decode cc pc = .ok (.iand, 1)) (k : J G K M (pc + 1) ls (.int (x &&& y) :: st)) : J G K M pc ls (.int y :: .int x :: st) :=
  fun hn H locs lc hP hS hl => lv_iand hG.1 hG.2.1 hd (k hn H locs lc hP hS hl)
theorem r_ior {x y : Int32} (hG : GF G K own cc d) (hd : decode cc pc = .ok (.ior, 1)) (k : J G K M (pc + 1) ls (.int (x ||| y) :: st)) : J G K M pc ls (.int y :: .int x :: st) :=
  fun hn H locs lc hP hS hl => lv_ior hG.1 hG.2.1 hd (k hn H locs lc hP hS hl)
theorem r_ixor {x y : Int32} (hG : GF G K own cc d) (hd : decode cc pc = .ok (.ixor, 1)) (k : J G K M (pc + 1) ls (.int (x ^^^ y) :: st)) : J G K M pc ls (.int y :: .int x :: st) :=
  fun hn H locs lc hP hS hl => lv_ixor hG.1 hG.2.1 hd (k hn H locs lc hP hS hl)
theorem r_ishl {x y : Int32} (hG : GF G K own cc d) (hd : decode cc pc = .ok (.ishl, 1)) (k : J G K M (pc + 1) ls (.int (x <<< (y &&& 31)) :: st)) : J G K M pc ls (.int y :: .int x :: st) :=
  fun hn H locs lc hP hS hl => lv_ishl hG.1 hG.2.1 hd (k hn H locs lc hP hS hl)
theorem r_ishr {x y : Int32} (hG : GF G K own cc d) (hd : decode cc pc = .ok (.ishr, 1)) (k : J G K M (pc + 1) ls (.int (x >>> (y &&& 31)) :: st)) : J G K M pc ls (.int y :: .int x :: st) :=
  fun hn H locs lc hP hS hl => lv_ishr hG.1 hG.2.1 hd (k hn H locs lc hP hS hl)
theorem r_idiv {x y : Int32} (hG : GF G K own cc d) (hd : decode cc pc = .ok (.idiv, 1)) (hz : ¬ y = 0) (k : J G K M (pc + 1) ls (.int (x / y) :: st)) : J G K M pc ls (.int y :: .int x :: st) :=
  fun hn H locs lc hP hS hl => lv_idiv hG.1 hG.2.1 hd hz (k hn H locs lc hP hS hl)
def irm (x y : Int32) : Int32 := x - x / y * y
def lrm (x y : Int64) : Int64 := x - x / y * y
def ius (x y : Int32) : Int32 := (x.toUInt32 >>> (y.toUInt32 &&& Int32.toUInt32 31)).toInt32
theorem r_irem {x y : Int32} (hG : GF G K own cc d) (hd : decode cc pc = .ok (.irem, 1)) (hz : ¬ y = 0) (k : J G K M (pc + 1) ls (.int (irm x y) :: st)) : J G K M pc ls (.int y :: .int x :: st) :=
  fun hn H locs lc hP hS hl => lv_irem hG.1 hG.2.1 hd hz (k hn H locs lc hP hS hl)
theorem r_ineg {x : Int32} (hG : GF G K own cc d) (hd : decode cc pc = .ok (.ineg, 1)) (k : J G K M (pc + 1) ls (.int (-x) :: st)) : J G K M pc ls (.int x :: st) :=
  fun hn H locs lc hP hS hl => lv_ineg hG.1 hG.2.1 hd (k hn H locs lc hP hS hl)
theorem r_iushr {x y : Int32} (hG : GF G K own cc d) (hd : decode cc pc = .ok (.iushr, 1)) (k : J G K M (pc + 1) ls (.int (ius x y) :: st)) : J G K M pc ls (.int y :: .int x :: st) :=
  fun hn H locs lc hP hS hl => lv_iushr hG.1 hG.2.1 hd rfl (k hn H locs lc hP hS hl)
theorem r_ladd {x y : Int64} (hG : GF G K own cc d) (hd : decode cc pc = .ok (.ladd, 1)) (k : J G K M (pc + 1) ls (.long (x + y) :: st)) : J G K M pc ls (.long y :: .long x :: st) :=
  fun hn H locs lc hP hS hl => lv_ladd hG.1 hG.2.1 hd (k hn H locs lc hP hS hl)
theorem r_lmul {x y : Int64} (hG : GF G K own cc d) (hd : decode cc pc = .ok (.lmul, 1)) (k : J G K M (pc + 1) ls (.long (x * y) :: st)) : J G K M pc ls (.long y :: .long x :: st) :=
  fun hn H locs lc hP hS hl => lv_lmul hG.1 hG.2.1 hd (k hn H locs lc hP hS hl)
theorem r_land {x y : Int64} (hG : GF G K own cc d) (hd : decode cc pc = .ok (.land, 1)) (k : J G K M (pc + 1) ls (.long (x &&& y) :: st)) : J G K M pc ls (.long y :: .long x :: st) :=
  fun hn H locs lc hP hS hl => lv_land hG.1 hG.2.1 hd (k hn H locs lc hP hS hl)
theorem r_lor {x y : Int64} (hG : GF G K own cc d) (hd : decode cc pc = .ok (.lor, 1)) (k : J G K M (pc + 1) ls (.long (x ||| y) :: st)) : J G K M pc ls (.long y :: .long x :: st) :=
  fun hn H locs lc hP hS hl => lv_lor hG.1 hG.2.1 hd (k hn H locs lc hP hS hl)
theorem r_ldiv {x y : Int64} (hG : GF G K own cc d) (hd : decode cc pc = .ok (.ldiv, 1)) (hz : ¬ y = 0) (k : J G K M (pc + 1) ls (.long (x / y) :: st)) : J G K M pc ls (.long y :: .long x :: st) :=
  fun hn H locs lc hP hS hl => lv_ldiv hG.1 hG.2.1 hd hz (k hn H locs lc hP hS hl)
theorem r_lrem {x y : Int64} (hG : GF G K own cc d) (hd : decode cc pc = .ok (.lrem, 1)) (hz : ¬ y = 0) (k : J G K M (pc + 1) ls (.long (lrm x y) :: st)) : J G K M pc ls (.long y :: .long x :: st) :=
  fun hn H locs lc hP hS hl => lv_lrem hG.1 hG.2.1 hd hz (k hn H locs lc hP hS hl)
theorem r_lshl {x : Int64} {y : Int32} (hG : GF G K own cc d) (hd : decode cc pc = .ok (.lshl, 1)) (k : J G K M (pc + 1) ls (.long (x <<< (y.toInt64 &&& 63)) :: st)) : J G K M pc ls (.int y :: .long x :: st) :=
  fun hn H locs lc hP hS hl => lv_lshl hG.1 hG.2.1 hd rfl (k hn H locs lc hP hS hl)
theorem r_lcmp {x y : Int64} (hG : GF G K own cc d) (hd : decode cc pc = .ok (.lcmp, 1)) (k : J G K M (pc + 1) ls (.int (lg_cmp x y) :: st)) : J G K M pc ls (.long y :: .long x :: st) :=
  fun hn H locs lc hP hS hl => W.lcmp hG.1 hG.2.1 hd (k hn H locs lc hP hS hl)
theorem r_i2l {x : Int32} (hG : GF G K own cc d) (hd : decode cc pc = .ok (.i2l, 1)) (k : J G K M (pc + 1) ls (.long x.toInt64 :: st)) : J G K M pc ls (.int x :: st) :=
  fun hn H locs lc hP hS hl => lv_i2l hG.1 hG.2.1 hd rfl (k hn H locs lc hP hS hl)
theorem r_l2i {x : Int64} (hG : GF G K own cc d) (hd : decode cc pc = .ok (.l2i, 1)) (k : J G K M (pc + 1) ls (.int x.toInt32 :: st)) : J G K M pc ls (.long x :: st) :=
  fun hn H locs lc hP hS hl => lv_l2i hG.1 hG.2.1 hd rfl (k hn H locs lc hP hS hl)
theorem r_i2b {x : Int32} (hG : GF G K own cc d) (hd : decode cc pc = .ok (.i2b, 1)) (k : J G K M (pc + 1) ls (.int x.toInt8.toInt32 :: st)) : J G K M pc ls (.int x :: st) :=
  fun hn H locs lc hP hS hl => lv_i2b hG.1 hG.2.1 hd rfl (k hn H locs lc hP hS hl)
theorem r_i2s {x : Int32} (hG : GF G K own cc d) (hd : decode cc pc = .ok (.i2s, 1)) (k : J G K M (pc + 1) ls (.int x.toInt16.toInt32 :: st)) : J G K M pc ls (.int x :: st) :=
  fun hn H locs lc hP hS hl => lv_i2s hG.1 hG.2.1 hd rfl (k hn H locs lc hP hS hl)
theorem r_i2c {x v : Int32} (hG : GF G K own cc d) (hd : decode cc pc = .ok (.i2c, 1)) (hv : (x.toUInt32 % 65536).toInt32 = v) (k : J G K M (pc + 1) ls (.int v :: st)) : J G K M pc ls (.int x :: st) :=
  fun hn H locs lc hP hS hl => lv_i2c hG.1 hG.2.1 hd hv (k hn H locs lc hP hS hl)
theorem r_dup {a : Value} (hG : GF G K own cc d) (hd : decode cc pc = .ok (.dup, 1)) (ha : a.category = 1) (k : J G K M (pc + 1) ls (a :: a :: st)) : J G K M pc ls (a :: st) :=
  fun hn H locs lc hP hS hl => lv_dup hG.1 hG.2.1 hd ha (k hn H locs lc hP hS hl)
theorem r_pop {a : Value} (hG : GF G K own cc d) (hd : decode cc pc = .ok (.pop, 1)) (ha : a.category = 1) (k : J G K M (pc + 1) ls (st)) : J G K M pc ls (a :: st) :=
  fun hn H locs lc hP hS hl => lv_pop hG.1 hG.2.1 hd ha (k hn H locs lc hP hS hl)
theorem r_dup_x1 {a b : Value} (hG : GF G K own cc d) (hd : decode cc pc = .ok (.dup_x1, 1)) (ha : a.category = 1) (hb : b.category = 1) (k : J G K M (pc + 1) ls (a :: b :: a :: st)) : J G K M pc ls (a :: b :: st) :=
  fun hn H locs lc hP hS hl => lv_dup_x1 hG.1 hG.2.1 hd ha hb (k hn H locs lc hP hS hl)
theorem r_dup2 {a b : Value} (hG : GF G K own cc d) (hd : decode cc pc = .ok (.dup2, 1)) (ha : a.category = 1) (hb : b.category = 1) (k : J G K M (pc + 1) ls (a :: b :: a :: b :: st)) : J G K M pc ls (a :: b :: st) :=
  fun hn H locs lc hP hS hl => lv_dup2_11 hG.1 hG.2.1 hd ha hb (k hn H locs lc hP hS hl)
theorem r_ldc {index : Nat} {v : Int32} (hG : GF G K own cc d) (hd : decode cc pc = .ok (.ldc index, 2)) (hc : Cond.constant own index v ∈ TW) (k : J G K M (pc + 2) ls (.int v :: st)) : J G K M pc ls st :=
  fun hn H locs lc hP hS hl => lv_ldc hG.1 hG.2.1 hG.2.2.2.1 (hG.2.2.2.2.1 _ hc) hd (k hn H locs lc hP hS hl)
theorem r_ldc_w {index : Nat} {v : Int32} (hG : GF G K own cc d) (hd : decode cc pc = .ok (.ldc_w index, 3)) (hc : Cond.constant own index v ∈ TW) (k : J G K M (pc + 3) ls (.int v :: st)) : J G K M pc ls st :=
  fun hn H locs lc hP hS hl => lv_ldcw hG.1 hG.2.1 hG.2.2.2.1 (hG.2.2.2.2.1 _ hc) hd (k hn H locs lc hP hS hl)
theorem r_ldc2 {index : Nat} {v : Int64} (hG : GF G K own cc d) (hd : decode cc pc = .ok (.ldc2_w index, 3)) (hc : Cond.constantLong own index v ∈ TW) (k : J G K M (pc + 3) ls (.long v :: st)) : J G K M pc ls st :=
  fun hn H locs lc hP hS hl => lv_ldc2 hG.1 hG.2.1 hG.2.2.2.1 (hG.2.2.2.2.1 _ hc) hd (k hn H locs lc hP hS hl)
theorem r_icmp_eq {x y : Int32} {off : Int} {tgt : Nat} (hG : GF G K own cc d) (hd : decode cc pc = .ok (.if_icmp .eq off, 3)) (ht : (pc : Int) + off = (tgt : Int)) (kt : x = y → J G K M tgt ls st) (kf : ¬ x = y → J G K M (pc + 3) ls st) : J G K M pc ls (.int y :: .int x :: st) :=
  fun hn H locs lc hP hS hl => lv_icmp_eq hG.1 hG.2.1 hd ht (fun q => kt q hn H locs lc hP hS hl) (fun q => kf q hn H locs lc hP hS hl)
theorem r_if_eq {x : Int32} {off : Int} {tgt : Nat} (hG : GF G K own cc d) (hd : decode cc pc = .ok (.ifCond .eq off, 3)) (ht : (pc : Int) + off = (tgt : Int)) (kt : x = 0 → J G K M tgt ls st) (kf : ¬ x = 0 → J G K M (pc + 3) ls st) : J G K M pc ls (.int x :: st) :=
  fun hn H locs lc hP hS hl => lv_if_eq hG.1 hG.2.1 hd ht (fun q => kt q hn H locs lc hP hS hl) (fun q => kf q hn H locs lc hP hS hl)
theorem r_icmp_ne {x y : Int32} {off : Int} {tgt : Nat} (hG : GF G K own cc d) (hd : decode cc pc = .ok (.if_icmp .ne off, 3)) (ht : (pc : Int) + off = (tgt : Int)) (kt : ¬ x = y → J G K M tgt ls st) (kf : x = y → J G K M (pc + 3) ls st) : J G K M pc ls (.int y :: .int x :: st) :=
  fun hn H locs lc hP hS hl => lv_icmp_ne hG.1 hG.2.1 hd ht (fun q => kt q hn H locs lc hP hS hl) (fun q => kf q hn H locs lc hP hS hl)
theorem r_if_ne {x : Int32} {off : Int} {tgt : Nat} (hG : GF G K own cc d) (hd : decode cc pc = .ok (.ifCond .ne off, 3)) (ht : (pc : Int) + off = (tgt : Int)) (kt : ¬ x = 0 → J G K M tgt ls st) (kf : x = 0 → J G K M (pc + 3) ls st) : J G K M pc ls (.int x :: st) :=
  fun hn H locs lc hP hS hl => lv_if_ne hG.1 hG.2.1 hd ht (fun q => kt q hn H locs lc hP hS hl) (fun q => kf q hn H locs lc hP hS hl)
theorem r_icmp_lt {x y : Int32} {off : Int} {tgt : Nat} (hG : GF G K own cc d) (hd : decode cc pc = .ok (.if_icmp .lt off, 3)) (ht : (pc : Int) + off = (tgt : Int)) (kt : x < y → J G K M tgt ls st) (kf : ¬ x < y → J G K M (pc + 3) ls st) : J G K M pc ls (.int y :: .int x :: st) :=
  fun hn H locs lc hP hS hl => lv_icmp_lt hG.1 hG.2.1 hd ht (fun q => kt q hn H locs lc hP hS hl) (fun q => kf q hn H locs lc hP hS hl)
theorem r_if_lt {x : Int32} {off : Int} {tgt : Nat} (hG : GF G K own cc d) (hd : decode cc pc = .ok (.ifCond .lt off, 3)) (ht : (pc : Int) + off = (tgt : Int)) (kt : x < 0 → J G K M tgt ls st) (kf : ¬ x < 0 → J G K M (pc + 3) ls st) : J G K M pc ls (.int x :: st) :=
  fun hn H locs lc hP hS hl => lv_if_lt hG.1 hG.2.1 hd ht (fun q => kt q hn H locs lc hP hS hl) (fun q => kf q hn H locs lc hP hS hl)
theorem r_icmp_ge {x y : Int32} {off : Int} {tgt : Nat} (hG : GF G K own cc d) (hd : decode cc pc = .ok (.if_icmp .ge off, 3)) (ht : (pc : Int) + off = (tgt : Int)) (kt : y ≤ x → J G K M tgt ls st) (kf : ¬ y ≤ x → J G K M (pc + 3) ls st) : J G K M pc ls (.int y :: .int x :: st) :=
  fun hn H locs lc hP hS hl => lv_icmp_ge hG.1 hG.2.1 hd ht (fun q => kt q hn H locs lc hP hS hl) (fun q => kf q hn H locs lc hP hS hl)
theorem r_if_ge {x : Int32} {off : Int} {tgt : Nat} (hG : GF G K own cc d) (hd : decode cc pc = .ok (.ifCond .ge off, 3)) (ht : (pc : Int) + off = (tgt : Int)) (kt : 0 ≤ x → J G K M tgt ls st) (kf : ¬ 0 ≤ x → J G K M (pc + 3) ls st) : J G K M pc ls (.int x :: st) :=
  fun hn H locs lc hP hS hl => lv_if_ge hG.1 hG.2.1 hd ht (fun q => kt q hn H locs lc hP hS hl) (fun q => kf q hn H locs lc hP hS hl)
theorem r_icmp_gt {x y : Int32} {off : Int} {tgt : Nat} (hG : GF G K own cc d) (hd : decode cc pc = .ok (.if_icmp .gt off, 3)) (ht : (pc : Int) + off = (tgt : Int)) (kt : y < x → J G K M tgt ls st) (kf : ¬ y < x → J G K M (pc + 3) ls st) : J G K M pc ls (.int y :: .int x :: st) :=
  fun hn H locs lc hP hS hl => lv_icmp_gt hG.1 hG.2.1 hd ht (fun q => kt q hn H locs lc hP hS hl) (fun q => kf q hn H locs lc hP hS hl)
theorem r_if_gt {x : Int32} {off : Int} {tgt : Nat} (hG : GF G K own cc d) (hd : decode cc pc = .ok (.ifCond .gt off, 3)) (ht : (pc : Int) + off = (tgt : Int)) (kt : 0 < x → J G K M tgt ls st) (kf : ¬ 0 < x → J G K M (pc + 3) ls st) : J G K M pc ls (.int x :: st) :=
  fun hn H locs lc hP hS hl => lv_if_gt hG.1 hG.2.1 hd ht (fun q => kt q hn H locs lc hP hS hl) (fun q => kf q hn H locs lc hP hS hl)
theorem r_icmp_le {x y : Int32} {off : Int} {tgt : Nat} (hG : GF G K own cc d) (hd : decode cc pc = .ok (.if_icmp .le off, 3)) (ht : (pc : Int) + off = (tgt : Int)) (kt : x ≤ y → J G K M tgt ls st) (kf : ¬ x ≤ y → J G K M (pc + 3) ls st) : J G K M pc ls (.int y :: .int x :: st) :=
  fun hn H locs lc hP hS hl => lv_icmp_le hG.1 hG.2.1 hd ht (fun q => kt q hn H locs lc hP hS hl) (fun q => kf q hn H locs lc hP hS hl)
theorem r_if_le {x : Int32} {off : Int} {tgt : Nat} (hG : GF G K own cc d) (hd : decode cc pc = .ok (.ifCond .le off, 3)) (ht : (pc : Int) + off = (tgt : Int)) (kt : x ≤ 0 → J G K M tgt ls st) (kf : ¬ x ≤ 0 → J G K M (pc + 3) ls st) : J G K M pc ls (.int x :: st) :=
  fun hn H locs lc hP hS hl => lv_if_le hG.1 hG.2.1 hd ht (fun q => kt q hn H locs lc hP hS hl) (fun q => kf q hn H locs lc hP hS hl)
theorem r_goto {off : Int} {tgt : Nat} (hG : GF G K own cc d) (hd : decode cc pc = .ok (.goto off, 3)) (ht : (pc : Int) + off = (tgt : Int)) (k : J G K M tgt ls st) : J G K M pc ls st :=
  fun hn H locs lc hP hS hl => lv_goto hG.1 hG.2.1 hd ht (k hn H locs lc hP hS hl)
theorem r_tableOut {dflt lo hi : Int} {offs : Array Int} {len : Nat} {x : Int32} {tgt : Nat} (hG : GF G K own cc d) (hd : decode cc pc = .ok (.tableswitch dflt lo hi offs, len)) (h : x.toInt < lo ∨ hi < x.toInt) (ht : (pc : Int) + dflt = (tgt : Int)) (k : J G K M tgt ls st) : J G K M pc ls (.int x :: st) :=
  fun hn H locs lc hP hS hl => lv_tableOut hG.1 hG.2.1 hd h ht (k hn H locs lc hP hS hl)
theorem r_tableIn {dflt lo hi : Int} {offs : Array Int} {len : Nat} {x : Int32} {off : Int} {tgt : Nat} (hG : GF G K own cc d) (hd : decode cc pc = .ok (.tableswitch dflt lo hi offs, len)) (h1 : ¬ x.toInt < lo) (h2 : ¬ hi < x.toInt) (ho : offs[(x.toInt - lo).toNat]? = some off) (ht : (pc : Int) + off = (tgt : Int)) (k : J G K M tgt ls st) : J G K M pc ls (.int x :: st) :=
  fun hn H locs lc hP hS hl => lv_tableIn hG.1 hG.2.1 hd h1 h2 ho ht (k hn H locs lc hP hS hl)
theorem r_topi {x : Int32} (k : ∀ y : Int32, y = x → J G K M pc ls (.int y :: st)) : J G K M pc ls (.int x :: st) := k x rfl
theorem J.cast {M' : MT} {pc' : Nat} {ls' : List (Option Value)} {st' : List Value} (k : J G K M' pc' ls' st') (hM : M = M') (hp : pc = pc') (hl : ls = ls') (hs : st = st') : J G K M pc ls st := by subst hM hp hl hs; exact k
theorem va_hsame {s : State} {a b c : String} : ∀ x, s.fieldFound? a b c = some x → s.fieldFound? a b c = some x := fun _ h => h
theorem J_getf {ci id index : Nat} {C : String} {T : u_T} {N : Nat} {fs : List Value} {v : Value} (hG : GF G K own cc d) (hd : decode cc pc = .ok (.getfield index, 3)) (k : Nat) (hl : Cond.fieldLink own index (T k).1 (T k).2.1 (T k).2.2.1 ∈ TW) (hin : ∀ w ∈ u_ws C T N, w ∈ TW) (hc : vwCl[ci]? = some (C, T, N)) (hk : k < N) (hid : id < 161) (he : mem K M id = .inr (ci, fs)) (hv : fs[k]? = some v) (kk : J G K M (pc + 3) ls (v :: st)) : J G K M pc ls (rf K id :: st) :=
  fun hn H locs lc hP hS hl2 => va_get hG.1 hG.2.1 hG.2.2.2.2.1 hin hG.2.2.2.1 hG.2.2.2.2.2.1 hP id (wd_at K M hid he) hc k hk (hG.2.2.2.2.1 _ hl) va_hsame hv hd (kk hn H locs lc hP hS hl2)
theorem J_putf {ci id index : Nat} {C : String} {T : u_T} {N : Nat} {fs : List Value} {v : Value} {M' : MT} (hG : GF G K own cc d) (hd : decode cc pc = .ok (.putfield index, 3)) (k : Nat) (hl : Cond.fieldLink own index (T k).1 (T k).2.1 (T k).2.2.1 ∈ TW) (hin : ∀ w ∈ u_ws C T N, w ∈ TW) (ty : Nat → FieldType) (hty : ∀ k, k < N → parseFieldDescriptor (T k).2.2.1 = some (ty k)) (hnm : ∀ a, a < N → ∀ b, b < N → a ≠ b → (T a).2.1 ≠ (T b).2.1) (hc : vwCl[ci]? = some (C, T, N)) (hk : k < N) (hfin : (T k).2.2.2 = false) (hid : id < 161) (he : mem K M id = .inr (ci, fs)) (hlen : k < fs.length) (hnr : narrow (ty k) v = v) (hft : fits (ty k) v = true)
    (hM : ∀ j, j < 161 → mem K M' j = if j = id then .inr (ci, fs.set k v) else mem K M j) (kk : J G K M' (pc + 3) ls st) : J G K M pc ls (v :: rf K id :: st) :=
  fun hn H locs lc hP hS hl2 => va_put hG.1 hG.2.1 hG.2.2.2.2.1 hin ty hty hnm hG.2.2.2.1 hG.2.2.2.2.2.1 hP (wd_D hG.2.2.2.2.2.2.1 M) hS id (wd_at K M hid he) hc k hk (hG.2.2.2.2.1 _ hl) va_hsame hfin (hty k hk) hnr hft hlen hd
    (fun H1 locs1 hP1 _ hS1 => kk hn H1 locs1 lc (by rw [wd_set K M M' hM] at hP1; exact hP1) hS1 hl2)
theorem J_iald {id n j : Nat} {f : Nat → Int32} {i : Int32} (hG : GF G K own cc d) (hd : decode cc pc = .ok (.iaload, 1)) (hid : id < 161) (he : mem K M id = .inl (K.2.1 0, n, .inl f)) (hx : ix i n j) (kk : J G K M (pc + 1) ls (.int (f j) :: st)) : J G K M pc ls (.int i :: rf K id :: st) := by
  intro hn H locs lc hP hS hl2
  refine va_iald hG.1 hG.2.1 hG.2.2.2.2.2.1 hP id 0 (wd_at K M hid he) rfl hx.1 hd ?_
  rw [hx.2.1]
  exact kk hn H locs lc hP hS hl2
theorem J_lald {id n j : Nat} {f : Nat → Int64} {i : Int32} (hG : GF G K own cc d) (hd : decode cc pc = .ok (.laload, 1)) (hid : id < 161) (he : mem K M id = .inl (K.2.1 1, n, .inr (.inl f))) (hx : ix i n j) (kk : J G K M (pc + 1) ls (.long (f j) :: st)) : J G K M pc ls (.int i :: rf K id :: st) := by
  intro hn H locs lc hP hS hl2
  refine va_lald hG.1 hG.2.1 hG.2.2.2.2.2.1 hP id 1 (wd_at K M hid he) rfl hx.1 hd ?_
  rw [hx.2.1]
  exact kk hn H locs lc hP hS hl2
theorem J_aald {id n j t : Nat} {f : Nat → Option Nat} {i : Int32} {ty : FieldType} {b : Nat} (hG : GF G K own cc d) (hd : decode cc pc = .ok (.aaload, 1)) (hid : id < 161) (he : mem K M id = .inl (K.2.1 t, n, .inr (.inr (.inr (.inr f))))) (ht : (tysK K)[t]? = some (K.2.1 t, ty)) (hty : ty.isReference = true) (hx : ix i n j) (hf : f j = some (ad K b)) (kk : J G K M (pc + 1) ls (rf K b :: st)) : J G K M pc ls (.int i :: rf K id :: st) := by
  intro hn H locs lc hP hS hl2
  have hcell := hP id _ (wd_at K M hid he)
  have hlt : i.toNatClampNeg < n := Nat.not_le.mp fun q => hx.1 (Or.inr q)
  refine W.aald (v := va_rf (f i.toNatClampNeg)) (ty := ty) hG.1 hG.2.1 hcell ((hG.2.2.2.2.2.1.2 t _ ht).1 n (fun j => va_rf (f j))) hty (fun q => by cases q) (by show ¬ (i < 0 ∨ (arrV _ _ _).slots.size ≤ _); rw [arrV_size]; exact hx.1) (by show (arrV _ _ _).slots[_]? = _; rw [arrV_read _ _ hlt]) rfl rfl hd ?_
  rw [hx.2.1, hf]
  exact kk hn H locs lc hP hS hl2
theorem J_iast {id n j : Nat} {f : Nat → Int32} {i x : Int32} {M' : MT} (hG : GF G K own cc d) (hd : decode cc pc = .ok (.iastore, 1)) (hid : id < 161) (he : mem K M id = .inl (K.2.1 0, n, .inl f)) (hx : ix i n j) (hM : ∀ q, q < 161 → mem K M' q = if q = id then .inl (K.2.1 0, n, .inl (upd f j x)) else mem K M q) (kk : J G K M' (pc + 1) ls st) : J G K M pc ls (.int x :: .int i :: rf K id :: st) := by
  intro hn H locs lc hP hS hl2
  refine va_iast hG.1 hG.2.1 hG.2.2.2.2.2.1 hP (wd_D hG.2.2.2.2.2.2.1 M) hS id 0 (wd_at K M hid he) rfl hx.1 hd (fun H1 locs1 hP1 _ hS1 => ?_)
  rw [hx.2.1, wd_set K M M' hM] at hP1
  exact kk hn H1 locs1 lc hP1 hS1 hl2
theorem J_last {id n j : Nat} {f : Nat → Int64} {i : Int32} {x : Int64} {M' : MT} (hG : GF G K own cc d) (hd : decode cc pc = .ok (.lastore, 1)) (hid : id < 161) (he : mem K M id = .inl (K.2.1 1, n, .inr (.inl f))) (hx : ix i n j) (hM : ∀ q, q < 161 → mem K M' q = if q = id then .inl (K.2.1 1, n, .inr (.inl (vp_updL f j x))) else mem K M q) (kk : J G K M' (pc + 1) ls st) : J G K M pc ls (.long x :: .int i :: rf K id :: st) := by
  intro hn H locs lc hP hS hl2
  refine va_last hG.1 hG.2.1 hG.2.2.2.2.2.1 hP (wd_D hG.2.2.2.2.2.2.1 M) hS id 1 (wd_at K M hid he) rfl hx.1 hd (fun H1 locs1 hP1 _ hS1 => ?_)
  rw [hx.2.1] at hP1
  rw [show (K.2.1 1, n, _) = ((K.2.1 1, n, _) : ClassId × vp_A) from rfl] at hP1
  refine kk hn H1 locs1 lc ?_ hS1 hl2
  rw [← wd_set K M M' hM]
  exact hP1
end Rows
