/-! ===== the objects come to stand: worlds that grow ===== -/
section Grow
abbrev XT : Type := va_G × (Nat → ClassId) × (Nat → Prop)
def kT6 (D : va_G) (cn : Nat → ClassId) : List (ClassId × FieldType) := tysK (D, cn, fun _ => 0, fun _ => 0)
def kIn : List Cond := [.methodLinkNest RX5 36 yX7_init RX8, .methodLinkNest RX5 37 yX2_init RX8, .methodLinkNest RX8 21 yX0_init RX8, .methodLinkNest RX8 28 yX1_init RX8, .methodLinkNest RX8 35 yX6_init RX8, .methodLinkNest RX8 50 yX4_init RX8, .methodLinkNest RX4 11 yX3_init RX8]
/-- what the making of objects needs of the machine -/
def FA (D : va_G) (cn : Nat → ClassId) (U : State) : Prop := va_K D vwCl (kT6 D cn) U ∧ (∀ w ∈ kIn, va_Nw w U) ∧ va_AO RX7 U ∧ va_AO RX2 U ∧ va_AO RX4 U ∧ va_AOA .int U
theorem FA.warm {D : va_G} {cn : Nat → ClassId} {s U : State} (h : FA D cn s) (hW : s.WarmedH U.vm) : FA D cn U := by
  obtain ⟨h1, h2, h3, h4, h5, h6⟩ := h
  refine ⟨h1.moved hW.alike, fun w hw => ?_, h3.moved hW.alike, h4.moved hW.alike, h5.moved hW.alike, h6.moved hW.alike⟩
  have hz := h2 w hw
  simp only [kIn, List.mem_cons, List.not_mem_nil, or_false] at hw
  rcases hw with rfl | rfl | rfl | rfl | rfl | rfl | rfl <;> exact va_Nw.warmM hW hz
theorem FA.same {D : va_G} {cn : Nat → ClassId} {u U : State} (h : FA D cn u) (hv : u.vm = U.vm) : FA D cn U := by
  obtain ⟨h1, h2, h3, h4, h5, h6⟩ := h
  have hal : u.vm.Alike U.vm := by rw [hv]; exact Vm.Alike.refl U.vm
  refine ⟨h1.moved hal, fun w hw => ?_, h3.moved hal, h4.moved hal, h5.moved hal, h6.moved hal⟩
  have hz := h2 w hw
  simp only [kIn, List.mem_cons, List.not_mem_nil, or_false] at hw
  rcases hw with rfl | rfl | rfl | rfl | rfl | rfl | rfl <;> exact va_Nw.same rfl hv hz
def LF (G : GT) (X : XT) (own : String) (cc : ByteArray) (d : Nat) : Prop :=
  (gP G).tables.exec = Jvm.exec ∧ (gC G).code = cc ∧ (gC G).maxLocals = gN G ∧ (gS G).vm.findClass own = some (gM G).cls ∧ (∀ w ∈ TW, w.before (gA G) (gS G) = true) ∧ FA X.1 X.2.1 (gS G) ∧ (d ≤ (gR G).frames ∧ 40 * d ≤ (gR G).locals) ∧ (∀ q, (gS G).heap.size ≤ q → X.2.2 q)
/-- from every machine whose own cells are ws: the frame comes to its end; k cells and o slots are made so far -/
def L (G : GT) (X : XT) (ws : va_W) (k o pc : Nat) (ls : List (Option Value)) (st : List Value) : Prop :=
  ls.length ≤ gN G → ∀ (H : Heap) (locs : List Loc) (lc : Array Slot), va_P X.1 vwCl ws H → va_D X.2.2 ws → va_S X.2.2 (gS G).heap H locs → lv_has lc (gN G) (asc 0 ls) →
    W (gP G) (gL G) (gE G) (gR G) (gS G) (gM G) (gA G) (gB G) (gH G) (gC G) H locs k o (gQ G) (F0 (gM G) pc lc st)
variable {G : GT} {X : XT} {ws : va_W} {own : String} {cc : ByteArray} {d k o pc : Nat} {ls : List (Option Value)} {st : List Value}
theorem L.eq {ws' : va_W} (h : ws' = ws) (kk : L G X ws' k o pc ls st) : L G X ws k o pc ls st := h ▸ kk
theorem L.swap {a b c : va_W} (kk : L G X ((a ++ c) ++ b) k o pc ls st) : L G X ((a ++ b) ++ c) k o pc ls st :=
  fun hn H locs lc hP hD hS hl => kk hn H locs lc (va_P.swap hP) (va_D.swap hD) hS hl
theorem l_iconst {n : Int} {v : Int32} (hF : LF G X own cc d) (hd : decode cc pc = .ok (.iconst n, 1)) (hv : Int32.ofInt n = v) (kk : L G X ws k o (pc + 1) ls (.int v :: st)) : L G X ws k o pc ls st :=
  fun hn H locs lc hP hD hS hl => lv_iconst hF.1 hF.2.1 hd hv (kk hn H locs lc hP hD hS hl)
theorem l_bipush {n : Int} {v : Int32} (hF : LF G X own cc d) (hd : decode cc pc = .ok (.bipush n, 2)) (hv : (Int8.ofInt n).toInt32 = v) (kk : L G X ws k o (pc + 2) ls (.int v :: st)) : L G X ws k o pc ls st :=
  fun hn H locs lc hP hD hS hl => lv_bipush hF.1 hF.2.1 hd hv (kk hn H locs lc hP hD hS hl)
theorem l_sipush {n : Int} {v : Int32} (hF : LF G X own cc d) (hd : decode cc pc = .ok (.sipush n, 3)) (hv : (Int16.ofInt n).toInt32 = v) (kk : L G X ws k o (pc + 3) ls (.int v :: st)) : L G X ws k o pc ls st :=
  fun hn H locs lc hP hD hS hl => lv_sipush hF.1 hF.2.1 hd hv (kk hn H locs lc hP hD hS hl)
theorem l_aload {i : Fin 4} {x : Nat} (hF : LF G X own cc d) (hd : decode cc pc = .ok (.aload_n i, 1)) (hx : ls[(i : Nat)]? = some (some (.ref x))) (kk : L G X ws k o (pc + 1) ls (.ref x :: st)) : L G X ws k o pc ls st :=
  fun hn H locs lc hP hD hS hl => lv_aload_n hF.1 hF.2.1 hd rfl (has_at hl hx) (kk hn H locs lc hP hD hS hl)
theorem l_iload {i : Fin 4} {x : Int32} (hF : LF G X own cc d) (hd : decode cc pc = .ok (.iload_n i, 1)) (hx : ls[(i : Nat)]? = some (some (.int x))) (kk : L G X ws k o (pc + 1) ls (.int x :: st)) : L G X ws k o pc ls st :=
  fun hn H locs lc hP hD hS hl => lv_iload_n hF.1 hF.2.1 hd rfl (has_at hl hx) (kk hn H locs lc hP hD hS hl)
theorem l_istore {i : Fin 4} {x : Int32} {ls' : List (Option Value)} (hF : LF G X own cc d) (hd : decode cc pc = .ok (.istore_n i, 1)) (ho : okp ls (i : Nat) = true) (hs : ls.set (i : Nat) (some (.int x)) = ls') (kk : L G X ws k o (pc + 1) ls' st) : L G X ws k o pc ls (.int x :: st) :=
  fun hn H locs lc hP hD hS hl => lv_istore_n hF.1 hF.2.1 hd rfl hl (Nat.lt_of_lt_of_le (okp_lt ho) hn) rfl (fun lc' h' => kk (by rw [← hs, List.length_set]; exact hn) H locs lc' hP hD hS (hs ▸ has_set ho h'))
theorem l_astore {i : Fin 4} {x : Nat} {ls' : List (Option Value)} (hF : LF G X own cc d) (hd : decode cc pc = .ok (.astore_n i, 1)) (ho : okp ls (i : Nat) = true) (hs : ls.set (i : Nat) (some (.ref x)) = ls') (kk : L G X ws k o (pc + 1) ls' st) : L G X ws k o pc ls (.ref x :: st) :=
  fun hn H locs lc hP hD hS hl => lv_astore_n hF.1 hF.2.1 hd rfl hl (Nat.lt_of_lt_of_le (okp_lt ho) hn) rfl (fun lc' h' => kk (by rw [← hs, List.length_set]; exact hn) H locs lc' hP hD hS (hs ▸ has_set ho h'))
theorem l_iinc {i : Nat} {n : Int} {x v : Int32} {ls' : List (Option Value)} (hF : LF G X own cc d) (hd : decode cc pc = .ok (.iinc i n, 3)) (hx : ls[i]? = some (some (.int x))) (hv : x + Int32.ofInt n = v) (ho : okp ls i = true) (hs : ls.set i (some (.int v)) = ls') (kk : L G X ws k o (pc + 3) ls' st) : L G X ws k o pc ls st := by
  intro hn H locs lc hP hD hS hl
  obtain ⟨j, hj⟩ := List.getElem?_of_mem (asc_mem 0 i (.int x) hx)
  exact lv_iinc hF.1 hF.2.1 hd hl (k := j) (by rw [hj, Nat.zero_add]) hv (Nat.lt_of_lt_of_le (okp_lt ho) hn) rfl (fun lc' h' => kk (by rw [← hs, List.length_set]; exact hn) H locs lc' hP hD hS (hs ▸ has_set ho h'))
theorem l_icmp_ge {x y : Int32} {off : Int} {tgt : Nat} (hF : LF G X own cc d) (hd : decode cc pc = .ok (.if_icmp .ge off, 3)) (ht : (pc : Int) + off = (tgt : Int)) (kt : y ≤ x → L G X ws k o tgt ls st) (kf : ¬ y ≤ x → L G X ws k o (pc + 3) ls st) : L G X ws k o pc ls (.int y :: .int x :: st) :=
  fun hn H locs lc hP hD hS hl => lv_icmp_ge hF.1 hF.2.1 hd ht (fun q => kt q hn H locs lc hP hD hS hl) (fun q => kf q hn H locs lc hP hD hS hl)
theorem l_goto {off : Int} {tgt : Nat} (hF : LF G X own cc d) (hd : decode cc pc = .ok (.goto off, 3)) (ht : (pc : Int) + off = (tgt : Int)) (kk : L G X ws k o tgt ls st) : L G X ws k o pc ls st :=
  fun hn H locs lc hP hD hS hl => lv_goto hF.1 hF.2.1 hd ht (kk hn H locs lc hP hD hS hl)
/-- Object's own constructor -/
theorem l_obj {idx a : Nat} (hF : LF G X own cc d) (hd : decode cc pc = .ok (.invokespecial idx, 3)) (hw : Cond.methodLink own idx ⟨"java/lang/Object", "<init>", "()V"⟩ ∈ TW) (h1 : 1 ≤ d) (kk : L G X ws k o (pc + 3) ls []) : L G X ws k o pc ls [.ref a] := by
  intro hn H locs lc hP hD hS hl
  obtain ⟨r1, r2⟩ := hF.2.2.2.2.2.2.1
  exact W.objInit hF.1 hF.2.1 hF.2.2.2.1 (hF.2.2.2.2.1 _ hw) (hF.2.2.2.2.1 _ tw_96) (hF.2.2.2.2.1 _ tw_97) rfl (by rw [hF.2.2.1]; exact hl.1) rfl hd (by omega) (show 12 ≤ (gR G).locals by omega) (kk hn H locs lc hP hD hS hl)
theorem l_newaI {n : Int32} {N' : Nat} (hF : LF G X own cc d) (hd : decode cc pc = .ok (.newarray .int, 2)) (hn : (decide (n < 0) == false && n.toNatClampNeg == N' && Nat.ble N' 1000) = true) (h1 : k + 1 ≤ (gR G).cells) (h2 : o + N' ≤ (gR G).slots) (kk : ∀ q : Nat, L G X (ws ++ [(q, .inl (X.2.1 0, N', .inl (fun _ => 0)))]) (k + 1) (o + N') (pc + 2) ls (.ref q :: st)) : L G X ws k o pc ls (.int n :: st) := by
  intro hn2 H locs lc hP hD hS hl
  simp only [Bool.and_eq_true, beq_iff_eq, decide_eq_false_iff_not] at hn
  obtain ⟨⟨n1, n2⟩, n3⟩ := hn
  have n3 := Nat.le_of_ble_eq_true n3
  refine va_newa (atype := .int) (ty := .int) (a0 := (N', .inl (fun _ => 0))) hF.1 hF.2.1 (hF.2.2.2.2.1 _ tw_252) rfl hF.2.2.2.2.2.1.1 hP hD hS hF.2.2.2.2.2.2.2 (fun _ => rfl) n1 n2 (show N' * 4 ≤ 536870912 by omega) h1 h2 hd (fun q cA H1 hK1 hP1 hD1 hS1 => ?_)
  have e1 := (hK1.2 6 _ rfl).2
  have e2 := (hF.2.2.2.2.2.1.1.2 0 _ rfl).2
  have e : cA = X.2.1 0 := Option.some.inj (Eq.trans (Eq.symm e1) e2)
  subst e
  exact kk q hn2 H1 locs lc hP1 hD1 hS1 hl
theorem l_newaJ {n : Int32} {N' : Nat} (hF : LF G X own cc d) (hd : decode cc pc = .ok (.newarray .long, 2)) (hn : (decide (n < 0) == false && n.toNatClampNeg == N' && Nat.ble N' 1000) = true) (h1 : k + 1 ≤ (gR G).cells) (h2 : o + N' ≤ (gR G).slots) (kk : ∀ q : Nat, L G X (ws ++ [(q, .inl (X.2.1 1, N', .inr (.inl (fun _ => 0))))]) (k + 1) (o + N') (pc + 2) ls (.ref q :: st)) : L G X ws k o pc ls (.int n :: st) := by
  intro hn2 H locs lc hP hD hS hl
  simp only [Bool.and_eq_true, beq_iff_eq, decide_eq_false_iff_not] at hn
  obtain ⟨⟨n1, n2⟩, n3⟩ := hn
  have n3 := Nat.le_of_ble_eq_true n3
  refine va_newa (atype := .long) (ty := .long) (a0 := (N', .inr (.inl (fun _ => 0)))) hF.1 hF.2.1 (hF.2.2.2.2.1 _ tw_341) rfl hF.2.2.2.2.2.1.1 hP hD hS hF.2.2.2.2.2.2.2 (fun _ => rfl) n1 n2 (show N' * 8 ≤ 536870912 by omega) h1 h2 hd (fun q cA H1 hK1 hP1 hD1 hS1 => ?_)
  have e1 := (hK1.2 6 _ rfl).2
  have e2 := (hF.2.2.2.2.2.1.1.2 1 _ rfl).2
  have e : cA = X.2.1 1 := Option.some.inj (Eq.trans (Eq.symm e1) e2)
  subst e
  exact kk q hn2 H1 locs lc hP1 hD1 hS1 hl
theorem l_newq {C : String} {idx t : Nat} {n : Int32} {N' : Nat} (hF : LF G X own cc d) (hd : decode cc pc = .ok (.anewarray idx, 3)) (hw : Cond.classLink own idx C ∈ TW) (hO : va_AO C (gS G)) (ht : (kT6 X.1 X.2.1)[t]? = some (X.2.1 t, .object C)) (hn : (decide (n < 0) == false && n.toNatClampNeg == N' && Nat.ble N' 1000) = true) (h1 : k + 1 ≤ (gR G).cells) (h2 : o + N' ≤ (gR G).slots) (kk : ∀ q : Nat, L G X (ws ++ [(q, .inl (X.2.1 t, N', .inr (.inr (.inr (.inr (fun _ => none))))))]) (k + 1) (o + N') (pc + 3) ls (.ref q :: st)) : L G X ws k o pc ls (.int n :: st) := by
  intro hn2 H locs lc hP hD hS hl
  simp only [Bool.and_eq_true, beq_iff_eq, decide_eq_false_iff_not] at hn
  obtain ⟨⟨n1, n2⟩, n3⟩ := hn
  have n3 := Nat.le_of_ble_eq_true n3
  refine va_newq (C := C) hF.1 hF.2.1 hF.2.2.2.1 (hF.2.2.2.2.1 _ hw) hO hF.2.2.2.2.2.1.1 hP hD hS hF.2.2.2.2.2.2.2 n1 n2 (by omega) h1 h2 hd (fun q cA H1 hK1 hP1 hD1 hS1 => ?_)
  obtain ⟨_, _, _, _, _, e1⟩ := (hK1.2 6 _ rfl).2
  obtain ⟨_, _, _, _, _, e2⟩ := (hF.2.2.2.2.2.1.1.2 t _ ht).2
  have e : cA = X.2.1 t := Option.some.inj (Eq.trans (Eq.symm e1) e2)
  subst e
  exact kk q hn2 H1 locs lc hP1 hD1 hS1 hl
theorem l_mna {idx : Nat} {n m : Int32} {N' M' : Nat} (hF : LF G X own cc d) (hd : decode cc pc = .ok (.multianewarray idx 2, 4)) (hw : Cond.classLink own idx "[[I" ∈ TW) (hn : (decide (n < 0) == false && n.toNatClampNeg == N' && Nat.ble N' 1000) = true) (hm : (decide (m < 0) == false && m.toNatClampNeg == M' && Nat.ble M' 1000) = true) (h1 : k + (1 + N') ≤ (gR G).cells) (h2 : o + (N' + N' * M') ≤ (gR G).slots)
    (kk : ∀ (q : Nat) (r : Nat → Nat), L G X ((ws ++ [(q, .inl (X.2.1 5, N', .inr (.inr (.inr (.inr (fun i => if i < N' then some (r i) else none))))))]) ++ (List.range N').map (fun i => (r i, .inl (X.2.1 0, M', .inl (fun _ => 0))))) (k + 1 + N') (o + N' + N' * M') (pc + 4) ls (.ref q :: st)) : L G X ws k o pc ls (.int m :: .int n :: st) := by
  intro hn2 H locs lc hP hD hS hl
  simp only [Bool.and_eq_true, beq_iff_eq, decide_eq_false_iff_not] at hn hm
  obtain ⟨⟨n1, n2⟩, n3⟩ := hn
  obtain ⟨⟨m1, m2⟩, m3⟩ := hm
  have n3 := Nat.le_of_ble_eq_true n3
  have m3 := Nat.le_of_ble_eq_true m3
  have e0 : ws ++ va_pl [] (fun _ => ((.inr (0, [])) : va_E)) = ws := List.append_nil ws
  refine va_mna (X := ws) (L := []) (f := fun _ => .inr (0, [])) (ty := .int) (cy := X.2.1 0) (z := (M', .inl (fun _ => 0))) hF.1 hF.2.1 hF.2.2.2.1 (hF.2.2.2.2.1 _ hw) hF.2.2.2.2.2.1.2.2.2.2.2 (hF.2.2.2.2.1 _ tw_252) (hF.2.2.2.2.2.1.1.2 0 _ rfl).2 hF.2.2.2.2.2.1.1 (by rw [e0]; exact hP) (by rw [e0]; exact hD) hS hF.2.2.2.2.2.2.2 n1 m1 n2 m2 (by omega) (show M' * 4 ≤ 536870912 by omega) (by omega) rfl rfl h1 h2 (fun c => arrV_new c M' (.int 0)) hd (fun q r cA H1 _ _ hK1 hP1 hD1 hS1 => ?_)
  have e1 := (hK1.2 6 _ rfl).2
  have e2 := (hF.2.2.2.2.2.1.1.2 5 _ rfl).2
  have e : cA = X.2.1 5 := Option.some.inj (Eq.trans (Eq.symm e1) e2)
  subst e
  rw [← vr_rows (fun a _ h => by cases h)] at hP1 hD1
  have e3 : va_pl [] (fun _ => ((.inr (0, [])) : va_E)) ++ ((List.range N').map r).map (fun a => ((a, .inl (X.2.1 0, M', .inl (fun _ => 0))) : Nat × va_E)) = (List.range N').map (fun i => (r i, .inl (X.2.1 0, M', .inl (fun _ => 0)))) := by
    rw [List.map_map]; rfl
  rw [e3] at hP1 hD1
  exact kk q r hn2 H1 locs lc hP1 hD1 hS1 hl
section OwnFields
variable {ci N idx h0 : Nat} {C : String} {T : u_T} {fs fs' : List Value} {v : Value} {Y : va_W}
theorem l_putF (hF : LF G X own cc d) (hd : decode cc pc = .ok (.putfield idx, 3)) (hin2 : (gH G).name = "<init>") (j : Nat) (hl : Cond.fieldLink own idx (T j).1 (T j).2.1 (T j).2.2.1 ∈ TW) (hin : ∀ w ∈ u_ws C T N, w ∈ TW) (ty : Nat → FieldType) (hty : ∀ k, k < N → parseFieldDescriptor (T k).2.2.1 = some (ty k)) (hnm : ∀ a, a < N → ∀ b, b < N → a ≠ b → (T a).2.1 ≠ (T b).2.1) (hc : vwCl[ci]? = some (C, T, N)) (hk : j < N) (hfin : (T j).2.2.2 = true) (hdecl : (T j).1 = own) (hlen : j < fs.length) (hnr : narrow (ty j) v = v) (hft : fits (ty j) v = true) (hs : fs.set j v = fs')
    (kk : L G X ((h0, .inr (ci, fs')) :: Y) k o (pc + 3) ls st) : L G X ((h0, .inr (ci, fs)) :: Y) k o pc ls (v :: .ref h0 :: st) := by
  subst hs
  exact fun hn H locs lc hP hD hS hl2 => va_putF hF.1 hF.2.1 hF.2.2.2.2.1 hin ty hty hnm hF.2.2.2.1 hF.2.2.2.2.2.1.1 hP hD hS 0 rfl hc j hk (hF.2.2.2.2.1 _ hl) va_hsame hfin hin2 hdecl (hty j hk) hnr hft hlen hd
    (fun H1 locs1 hP1 hD1 hS1 => kk hn H1 locs1 lc hP1 hD1 hS1 hl2)
theorem l_put (hF : LF G X own cc d) (hd : decode cc pc = .ok (.putfield idx, 3)) (j : Nat) (hl : Cond.fieldLink own idx (T j).1 (T j).2.1 (T j).2.2.1 ∈ TW) (hin : ∀ w ∈ u_ws C T N, w ∈ TW) (ty : Nat → FieldType) (hty : ∀ k, k < N → parseFieldDescriptor (T k).2.2.1 = some (ty k)) (hnm : ∀ a, a < N → ∀ b, b < N → a ≠ b → (T a).2.1 ≠ (T b).2.1) (hc : vwCl[ci]? = some (C, T, N)) (hk : j < N) (hfin : (T j).2.2.2 = false) (hlen : j < fs.length) (hnr : narrow (ty j) v = v) (hft : fits (ty j) v = true) (hs : fs.set j v = fs')
    (kk : L G X ((h0, .inr (ci, fs')) :: Y) k o (pc + 3) ls st) : L G X ((h0, .inr (ci, fs)) :: Y) k o pc ls (v :: .ref h0 :: st) := by
  subst hs
  exact fun hn H locs lc hP hD hS hl2 => va_put hF.1 hF.2.1 hF.2.2.2.2.1 hin ty hty hnm hF.2.2.2.1 hF.2.2.2.2.2.1.1 hP hD hS 0 rfl hc j hk (hF.2.2.2.2.1 _ hl) va_hsame hfin (hty j hk) hnr hft hlen hd
    (fun H1 locs1 hP1 hD1 hS1 => kk hn H1 locs1 lc hP1 hD1 hS1 hl2)
theorem l_get (hF : LF G X own cc d) (hd : decode cc pc = .ok (.getfield idx, 3)) (j : Nat) (hl : Cond.fieldLink own idx (T j).1 (T j).2.1 (T j).2.2.1 ∈ TW) (hin : ∀ w ∈ u_ws C T N, w ∈ TW) (hc : vwCl[ci]? = some (C, T, N)) (hk : j < N) (hv : fs[j]? = some v)
    (kk : L G X ((h0, .inr (ci, fs)) :: Y) k o (pc + 3) ls (v :: st)) : L G X ((h0, .inr (ci, fs)) :: Y) k o pc ls (.ref h0 :: st) :=
  fun hn H locs lc hP hD hS hl2 => va_get hF.1 hF.2.1 hF.2.2.2.2.1 hin hF.2.2.2.1 hF.2.2.2.2.2.1.1 hP 0 rfl hc j hk (hF.2.2.2.2.1 _ hl) va_hsame hv hd (kk hn H locs lc hP hD hS hl2)
end OwnFields
theorem l_iast {q0 a n j : Nat} {f : Nat → Int32} {i x : Int32} {ws' : va_W} (hF : LF G X own cc d) (hd : decode cc pc = .ok (.iastore, 1)) (he : ws[q0]? = some (a, .inl (X.2.1 0, n, .inl f))) (hx : ix i n j) (hs : ws.set q0 (a, .inl (X.2.1 0, n, .inl (upd f j x))) = ws') (kk : L G X ws' k o (pc + 1) ls st) : L G X ws k o pc ls (.int x :: .int i :: .ref a :: st) := by
  intro hn H locs lc hP hD hS hl2
  subst hs
  refine va_iast hF.1 hF.2.1 hF.2.2.2.2.2.1.1 hP hD hS q0 0 he rfl hx.1 hd (fun H1 locs1 hP1 hD1 hS1 => ?_)
  rw [hx.2.1] at hP1 hD1
  exact kk hn H1 locs1 lc hP1 hD1 hS1 hl2
theorem l_astq {q0 t qk ci a n j v : Nat} {r : vw_C} {vs : List Value} {f : Nat → Option Nat} {i : Int32} {ws' : va_W} (hF : LF G X own cc d) (hd : decode cc pc = .ok (.aastore, 1)) (he : ws[q0]? = some (a, .inl (X.2.1 t, n, .inr (.inr (.inr (.inr f)))))) (ht : (kT6 X.1 X.2.1)[t]? = some (X.2.1 t, .object r.1)) (hv : ws[qk]? = some (v, .inr (ci, vs))) (hc : vwCl[ci]? = some r) (hx : ix i n j) (hs : ws.set q0 (a, .inl (X.2.1 t, n, .inr (.inr (.inr (.inr (va_up f j (some v))))))) = ws') (kk : L G X ws' k o (pc + 1) ls st) : L G X ws k o pc ls (.ref v :: .int i :: .ref a :: st) := by
  intro hn H locs lc hP hD hS hl2
  subst hs
  refine va_astq hF.1 hF.2.1 hF.2.2.2.2.2.1.1 hP hD hS q0 t qk ci he ht hv hc hx.1 hd (fun H1 locs1 hP1 hD1 hS1 => ?_)
  rw [hx.2.1] at hP1 hD1
  exact kk hn H1 locs1 lc hP1 hD1 hS1 hl2
/-- y makes objects of kind ci: out of the new object (fields fs) it makes the cells Wf, mc cells and ms slots more -/
def CI {S : Type} (d : Nat) (y : MethodName) (cy : ByteArray) (nY mc ms ci : Nat) (fs : List Value) (Wf : (Nat → ClassId) → Nat → S → va_W) : Prop :=
  ∀ (l : Launch) (D : va_G) (cn : Nat → ClassId) (h0 sz : Nat), Met l y (.code y cy nY none :: TW) ({ frames := d, cells := mc, slots := ms, locals := 40 * d } : Room) (va_Pc [.ref h0] (fun U => U.heap.size = sz ∧ va_P D vwCl [(h0, .inr (ci, fs))] U.heap ∧ FA D cn U)) (va_Qv (fun _ : S => True) (fun u t => va_P D vwCl (Wf cn h0 u) t.heap ∧ va_D (va_A [(h0, .inr (ci, fs))] sz) (Wf cn h0 u)) (va_A [(h0, .inr (ci, fs))] sz)) mc ms (va_A [(h0, .inr (ci, fs))] sz)
theorem D_one {A : Nat → Prop} {q : Nat} {e : va_E} (h : A q) : va_D A [(q, e)] := by
  refine ⟨fun i j p r hi hj _ => ?_, fun i p hi => ?_⟩
  · have h1 := (List.getElem?_eq_some_iff.mp hi).1
    have h2 := (List.getElem?_eq_some_iff.mp hj).1
    simp only [List.length_singleton] at h1 h2
    omega
  · have h1 := (List.getElem?_eq_some_iff.mp hi).1
    simp only [List.length_singleton] at h1
    rw [show i = 0 by omega] at hi
    cases hi
    exact h
theorem CI.of {S : Type} {d : Nat} {y : MethodName} {cy : ByteArray} {nY mc ms ci : Nat} {fs : List Value} {Wf : (Nat → ClassId) → Nat → S → va_W} (t : List (Option Value)) (ht : t = [] ∨ t = [none]) (hlen : t.length + 1 ≤ nY) (hy : plainName y.cls = true) (hi : y.name = "<init>")
    (body : ∀ (G : GT) (X : XT) (h0 : Nat), LF G X y.cls cy d → gN G = nY → (gH G).name = "<init>" → (gR G).cells = mc → (gR G).slots = ms → (∀ (k o pc : Nat) (ls : List (Option Value)) (ws : va_W) (u : S), decode cy pc = .ok (.return_, 1) → k ≤ mc → o ≤ ms → ws = Wf X.2.1 h0 u → L G X ws k o pc ls []) → L G X [(h0, .inr (ci, fs))] 0 0 0 (some (.ref h0) :: t) []) : CI d y cy nY mc ms ci fs Wf := by
  intro l D cn h0 sz
  refine Met.ofW (cc := cy) (maxL := nY) (ret := none) hy rfl ?_
  intro p e s m args below meth c s₁ B hml hv
  obtain ⟨rfl, hsz, hP, hFA⟩ := hv
  subst hsz
  have hts0 : ∀ w ∈ (Cond.code y cy nY none :: TW), w.before ([Value.ref h0] : List Value).toArray s = true := atoms_spec (ws := Cond.code y cy nY none :: TW) B.pre
  have hown : s.vm.findClass y.cls = some m.cls := findClass_of_methodNamed B.named
  have hin : meth.name = "<init>" := (name_of_methodNamed B.named B.method).1.trans hi
  have hF : LF (p, l, e, (headSpec (Cond.code y cy nY none :: TW) ({ frames := d, cells := mc, slots := ms, locals := 40 * d } : Room)).room, s, m, ([Value.ref h0] : List Value).toArray, below, meth, c, 0, 0, MQ below (va_Qv (fun _ : S => True) (fun u t => va_P D vwCl (Wf cn h0 u) t.heap ∧ va_D (va_A [(h0, .inr (ci, fs))] s.heap.size) (Wf cn h0 u)) (va_A [(h0, .inr (ci, fs))] s.heap.size)) ([Value.ref h0] : List Value).toArray s mc ms (va_A [(h0, .inr (ci, fs))] s.heap.size), nY) (D, cn, va_A [(h0, .inr (ci, fs))] s.heap.size) y.cls cy d :=
    ⟨B.exec, B.bytes, hml, hown, fun w hw => hts0 w (List.mem_cons_of_mem _ hw), hFA, ⟨Nat.le_refl _, Nat.le_refl _⟩, fun q hq => Or.inr hq⟩
  have hb := body _ _ h0 hF rfl hin rfl rfl (fun k o pc ls ws u hd hk ho hw => ?_)
  · rw [lg_entry_eq]
    refine hb hlen s.heap [] _ hP (D_one (va_A.in (k := 0) (q := (h0, .inr (ci, fs))) rfl)) va_S.rf ?_
    rcases ht with rfl | rfl
    · exact lv_entry [.ref h0] (Nat.le_trans (Nat.le_refl 1) hlen)
    · exact lv_entry [.ref h0] (Nat.le_trans (Nat.le_succ 1) hlen)
  · subst hw
    intro hn H locs lc hP1 hD1 hS1 hl1
    refine W.widen hk ho ?_
    exact W.vret B.exec B.bytes B.returns (fun t ht hW => ⟨⟨u, rfl, trivial, by rw [ht]; exact hP1, hD1⟩, hS1.F ht⟩) hS1.2.2 hd B.notSynchronized
end Grow
