/-! ===== the law: its start, its own rules (the head below is the skeleton's) ===== -/
def R_law : String := "WhosePageLaw"
def lw_P (b : Addr) (xs : List Int32) (args : Array Value) (s : State) : Prop := args = #[.ref b] ∧ s.IntsAt b xs ∧ xs.length ≤ 2048 ∧ (Jvm.Cond.and given_1 narrow_1).before args s = true
def lw_Q (_ : Array Value) (s : State) (o : Outcome) (t : State) : Prop := o = .returned (some (.int 1)) ∧ Framed s o t [] 600000 7302250
def lw_Z (below : List Frame) (a : Array Value) (s : State) : State → Prop := fun t => ∃ o, t.status = .running ∧ Ended t below o ∧ lw_Q a s o t
/-- the law's own end, with 1 on the stack, nothing written that was there before, its room as the claim has it -/
theorem lw_ret {p : Program} {l : Launch} {e : Env} {s : State} {m : MethodId} {below : List Frame} {meth : Method} {c : Code} {b : Nat} (hx : p.tables.exec = Jvm.exec) (hb : c.code = code) (hr : meth.sig.returnType = ret) (hlocks : meth.locks = false) {pc : Nat} {H : Heap} {ls : Array Slot} (hdg : decode code pc = .ok (.ireturn, 1)) : W p l e room_1 s m #[Value.ref b] below meth c H [] 600000 7302250 (lw_Z below #[Value.ref b] s) (F0 m pc ls [.int 1]) := by
  intro T hT X
  obtain ⟨fs, hret, hrun, hended, hW, hframe⟩ := X.leave (v := some (.int 1)) (hlocks := hlocks) (fun h => by rw [hr] at h; cases h)
  have hmeth' : T.vm.method? m = some meth := X.method'
  refine ⟨T.setFrames fs, ?_, .returned (some (.int 1)), hrun, hended, rfl, ⟨_, rfl⟩, hW, hframe⟩
  jvm_step X.here [X.here.top, hx, hb, hdg, hmeth', hr, ret, narrow_b1]
  (try refine ⟨rfl, ?_⟩); (try refine ⟨rfl, ?_⟩)
  first | (intro acts; rw [hret _ acts rfl rfl rfl]) | rw [hret _ _ rfl rfl rfl]
  exact Steps.refl _
/-- what holds at the law's entry: the machine, the code, the tables' words (any of lw_tbl by 'hts w (by decide +kernel)'), the script of L ints xs at the cell b, what the Statement gives of the start (any of its parts by flat_of_before) -/
def lw_At (p : Program) (s : State) (m : MethodId) (meth : Method) (c : Code) (b L : Nat) (xs : Nat → Int32) : Prop :=
  p.tables.exec = Jvm.exec ∧ c.code = code ∧ meth.sig.returnType = ret ∧ c.maxLocals = 4 ∧ s.vm.findClass R_law = some m.cls ∧ (∀ w ∈ lw_tbl, w.before #[Value.ref b] s = true) ∧ va_X b L xs s s.heap ∧ b < s.heap.size ∧ meth.locks = false ∧ (Jvm.Cond.and given_1 narrow_1).before #[Value.ref b] s = true
theorem tb1 {i : Nat} {w : Cond} (h : tables_1_1[i]? = some w) : w ∈ lw_tbl := List.mem_append_right _ (List.mem_append_left _ (List.mem_of_getElem? h))
theorem tb2 {i : Nat} {w : Cond} (h : tables_1_2[i]? = some w) : w ∈ lw_tbl := List.mem_append_right _ (List.mem_append_right _ (List.mem_append_left _ (List.mem_of_getElem? h)))
theorem tb3 {i : Nat} {w : Cond} (h : tables_1_3[i]? = some w) : w ∈ lw_tbl := List.mem_append_right _ (List.mem_append_right _ (List.mem_append_right _ (List.mem_append_left _ (List.mem_of_getElem? h))))
theorem tb4 {i : Nat} {w : Cond} (h : tables_1_4[i]? = some w) : w ∈ lw_tbl := List.mem_append_right _ (List.mem_append_right _ (List.mem_append_right _ (List.mem_append_right _ (List.mem_append_left _ (List.mem_of_getElem? h)))))
theorem nest_tbl : ∀ w ∈ nestW, w ∈ lw_tbl ∧ w.onTables = true := by
  intro w hw
  simp only [nestW, List.mem_cons, List.not_mem_nil, or_false] at hw
  rcases hw with rfl | rfl | rfl | rfl | rfl | rfl | rfl | rfl | rfl | rfl | rfl
  · exact ⟨tb1 (i := 27) rfl, rfl⟩
  · exact ⟨tb1 (i := 93) rfl, rfl⟩
  · exact ⟨tb1 (i := 126) rfl, rfl⟩
  · exact ⟨tb1 (i := 148) rfl, rfl⟩
  · exact ⟨tb1 (i := 198) rfl, rfl⟩
  · exact ⟨tb1 (i := 153) rfl, rfl⟩
  · exact ⟨tb1 (i := 156) rfl, rfl⟩
  · exact ⟨tb2 (i := 166) rfl, rfl⟩
  · exact ⟨tb3 (i := 187) rfl, rfl⟩
  · exact ⟨tb3 (i := 57) rfl, rfl⟩
  · exact ⟨tb3 (i := 54) rfl, rfl⟩
theorem law_arr {s : State} {args : Array Value} {ty : FieldType} (h : (Cond.arrayClass ty).before args s = true) (hp : ∀ k, ty ≠ .array k) (hq : ∀ k, ty ≠ .object k) : ∃ cA : ClassId, ArrOfT s cA ty ∧ s.vm.findClass ("[" ++ ty.toString) = some cA := by
  obtain ⟨cA, kA, comp, h1, h2, h3⟩ := Cond.arrayClass_spec h
  exact ⟨cA, fun n z => ⟨(fun k h => by cases h), kA, h2, comp, h3⟩, h1⟩
def tmS (i : Nat) : Term := if i = 0 then .string RX4 44 else .string RX4 57
def LX (X : Cx) (b Ln : Nat) (xs : Nat → Int32) : Prop := va_X b Ln xs (cxs X) (cxs X).heap ∧ b < (cxs X).heap.size ∧ ¬ cxA X b ∧ cxa X 1500 = b ∧ cxR X = room_1 ∧ cxg X = #[Value.ref b] ∧ cxQ X = lw_Z (cxb X) #[Value.ref b] (cxs X) ∧ ∀ q, cxA X q → (cxs X).heap.size ≤ q
def a0L (adK adV : Nat → Nat) (b : Nat) : Nat → Nat := fun i => if i = 1500 then b else if i < 1010 then adK (i - 1000) else adV (i - 1010)
set_option maxHeartbeats 4000000 in
theorem law_ctx {p : Program} {e : Env} {s : State} {m : MethodId} {below : List Frame} {meth : Method} {c : Code} {b Ln : Nat} {xs : Nat → Int32} (l : Launch) (C0 : lw_At p s m meth c b Ln xs) : ∃ X : Cx, Fx X code RL ret 13 600000 7302250 ∧ LX X b Ln xs ∧ cxn X = 0 ∧ (PW X 0 [some (.ref 1500), none, none, none] [] [] 0 0 → W p l e room_1 s m #[Value.ref b] below meth c s.heap [] 0 0 (lw_Z below #[Value.ref b] s) (entryFrame m ([Value.ref b] : List Value).toArray 4)) := by
  obtain ⟨hx, hb, hr, hml, hown, hts, hXs, hbl, hlocks, hgv⟩ := id C0
  have hfl := flat_of_before _ hgv
  have hAW : ∀ w ∈ AW, w.before #[Value.ref b] s = true := fun w hw => hts w (List.mem_filter.mp hw).1
  have hnA : ∀ a : Nat, a < s.heap.size → ¬ (fun q : Nat => s.heap.size ≤ q) a := fun a ha => Nat.not_le.mpr ha
  obtain ⟨c0, i0, k0⟩ := u_known (C := RX0) (T := TX0) (N := 7) (n := 7) hAW uw_X0 (hts (.instantiable RX0 7) (tb1 (i := 147) rfl))
  obtain ⟨c1, i1, k1⟩ := u_known (C := RX1) (T := TX1) (N := 11) (n := 11) hAW uw_X1 (hts (.instantiable RX1 11) (tb1 (i := 26) rfl))
  obtain ⟨c2, i2, k2⟩ := u_known (C := RX2) (T := TX2) (N := 5) (n := 5) hAW uw_X2 (hts (.instantiable RX2 5) (tb1 (i := 125) rfl))
  obtain ⟨c3, i3, k3⟩ := u_known (C := RX3) (T := TX3) (N := 5) (n := 5) hAW uw_X3 (hts (.instantiable RX3 5) (tb1 (i := 197) rfl))
  obtain ⟨c4, i4, k4⟩ := u_known (C := RX4) (T := TX4) (N := 8) (n := 8) hAW uw_X4 (hts (.instantiable RX4 8) (tb1 (i := 92) rfl))
  obtain ⟨c5, i5, k5⟩ := u_known (C := RX5) (T := TX5) (N := 3) (n := 3) hAW uw_X5 (hts (.instantiable RX5 3) (tb1 (i := 155) rfl))
  obtain ⟨c6, i6, k6⟩ := u_known (C := RX6) (T := TX6) (N := 9) (n := 9) hAW uw_X6 (hts (.instantiable RX6 9) (tb1 (i := 18) rfl))
  obtain ⟨c7, i7, k7⟩ := u_known (C := RX7) (T := TX7) (N := 24) (n := 24) hAW uw_X7 (hts (.instantiable RX7 24) (tb4 (i := 21) rfl))
  obtain ⟨dC, dI, hKc⟩ : ∃ (dC : Nat → ClassId) (dI : Nat → Nat → Nat), ∀ (k : Nat) (q : vw_C), vwCl[k]? = some q → u_Kn s q.1 q.2.1 q.2.2 (dC k) (dI k) := by
    refine ⟨fun k => if k = 0 then c0 else if k = 1 then c1 else if k = 2 then c2 else if k = 3 then c3 else if k = 4 then c4 else if k = 5 then c5 else if k = 6 then c6 else c7, fun k => if k = 0 then i0 else if k = 1 then i1 else if k = 2 then i2 else if k = 3 then i3 else if k = 4 then i4 else if k = 5 then i5 else if k = 6 then i6 else i7, ?_⟩
    intro k q hq
    match k, hq with
    | 0, hq => cases hq; exact k0
    | 1, hq => cases hq; exact k1
    | 2, hq => cases hq; exact k2
    | 3, hq => cases hq; exact k3
    | 4, hq => cases hq; exact k4
    | 5, hq => cases hq; exact k5
    | 6, hq => cases hq; exact k6
    | 7, hq => cases hq; exact k7
    | k + 8, hq => simp [vwCl] at hq
  obtain ⟨aI, aI1, aI2⟩ := law_arr (ty := .int) (hts (.arrayClass .int) (tb1 (i := 90) rfl)) (fun _ h => by cases h) (fun _ h => by cases h)
  obtain ⟨aC, aC1, aC2⟩ := law_arr (ty := .char) (hts (.arrayClass .char) (tb4 (i := 99) rfl)) (fun _ h => by cases h) (fun _ h => by cases h)
  obtain ⟨aB, aB1, aB2⟩ := law_arr (ty := .boolean) (hts (.arrayClass .boolean) (tb4 (i := 100) rfl)) (fun _ h => by cases h) (fun _ h => by cases h)
  have hK : va_K (dC, dI) vwCl (tys3 (fun k => if k = 0 then aI else if k = 1 then aC else aB)) s := by
    refine ⟨hKc, fun k q hq => ?_⟩
    match k, hq with
    | 0, hq => cases hq; exact ⟨aI1, aI2⟩
    | 1, hq => cases hq; exact ⟨aC1, aC2⟩
    | 2, hq => cases hq; exact ⟨aB1, aB2⟩
    | k + 3, hq => simp [tys3] at hq
  obtain ⟨adK, adV, hS, hE⟩ := vk_Sof (args := #[Value.ref b]) (s := s) (N := 2) (tm := tmS) (len := [6, 6]) (byt := txB) (A := fun q : Nat => s.heap.size ≤ q) (fun i hi => by
      have : i = 0 ∨ i = 1 := by omega
      rcases this with rfl | rfl <;> decide) (fun i hi => by
      have : i = 0 ∨ i = 1 := by omega
      rcases this with rfl | rfl <;> exact hfl _ (by decide +kernel)) (fun i hi => by
      have : i = 0 ∨ i = 1 := by omega
      rcases this with rfl | rfl <;> exact hfl _ (by decide +kernel)) (fun i hi => by
      have : i = 0 ∨ i = 1 := by omega
      rcases this with rfl | rfl <;> exact hfl _ (by decide +kernel)) (fun i hi => by
      have : i = 0 ∨ i = 1 := by omega
      rcases this with rfl | rfl <;> exact hfl _ (by decide +kernel)) (fun i hi j hj => by
      have hi2 : i = 0 ∨ i = 1 := by omega
      have hj : j < 6 := by rcases hi2 with rfl | rfl <;> exact hj
      have hj2 : j = 0 ∨ j = 1 ∨ j = 2 ∨ j = 3 ∨ j = 4 ∨ j = 5 := by omega
      rcases hi2 with rfl | rfl <;> rcases hj2 with rfl | rfl | rfl | rfl | rfl | rfl <;> exact hfl _ (by decide +kernel)) (fun i j hi hj hij => by
      have hi2 : i = 0 ∨ i = 1 := by omega
      have hj2 : j = 0 ∨ j = 1 := by omega
      rcases hi2 with rfl | rfl <;> rcases hj2 with rfl | rfl
      · exact absurd rfl hij
      · exact Or.inl (hfl _ (by decide +kernel))
      · exact Or.inr (hfl _ (by decide +kernel))
      · exact absurd rfl hij) hnA
  have h44 : (Term.string RX4 44).eval #[Value.ref b] s none [] s = some (.ref (adK 0)) := hE 0 (by decide)
  have h57 : (Term.string RX4 57).eval #[Value.ref b] s none [] s = some (.ref (adK 1)) := hE 1 (by decide)
  have h107 : (Term.string RX6 107).eval #[Value.ref b] s none [] s = some (.ref (adK 0)) := va_eqR (t := .string RX4 44) (hfl _ (by decide +kernel)) h44
  have hZ : va_Z "java/lang/String" "COMPACT_STRINGS" "Z" (.int 1) (fun q : Nat => s.heap.size ≤ q) s s.heap := va_Zof (hts (.laysStatic "java/lang/String" "COMPACT_STRINGS" "Z") (tb2 (i := 72) rfl)) (hts (.initialized "java/lang/String") (tb1 (i := 9) rfl)) (va_eqi (hfl (Cond.eq (.static "java/lang/String" "COMPACT_STRINGS" "Z") (.int 1)) (by decide +kernel))) hnA
  have hS2 : vk_S 2 [6, 6] txB (fun i => a0L adK adV b (1000 + i)) (fun i => a0L adK adV b (1010 + i)) (fun q : Nat => s.heap.size ≤ q) s s.heap := by
    have eK : ∀ i, i < 2 → a0L adK adV b (1000 + i) = adK i := fun i hi => by
      have : i = 0 ∨ i = 1 := by omega
      rcases this with rfl | rfl <;> rfl
    have eV : ∀ i, i < 2 → a0L adK adV b (1010 + i) = adV i := fun i hi => by
      have : i = 0 ∨ i = 1 := by omega
      rcases this with rfl | rfl <;> rfl
    obtain ⟨g1, g2⟩ := hS
    refine ⟨fun i hi => ?_, fun i j hi hj hij => g2 i j hi hj ?_⟩
    · dsimp only
      rw [eK i hi, eV i hi]
      exact g1 i hi
    · dsimp only at hij
      rw [eK i hi, eK j hj] at hij
      exact hij
  have hKK : KK (dC, dI) (fun k => if k = 0 then aI else if k = 1 then aC else aB) (a0L adK adV b) (fun q : Nat => s.heap.size ≤ q) s s.heap :=
    ⟨hK, fun w hw => va_Nw.of (nest_tbl w hw).2 (hts w (nest_tbl w hw).1), hS2, vk_R.of (hts (.stringRef RX4 44 "fstoab") (tb2 (i := 54) rfl)) h44, vk_R.of (hts (.stringRef RX4 57 "aohndc") (tb2 (i := 145) rfl)) h57, vk_R.of (hts (.stringRef RX6 107 "fstoab") (tb2 (i := 206) rfl)) h107, hZ⟩
  refine ⟨((p, l, e, room_1), (s, m, #[Value.ref b], below), (meth, c), ((dC, dI), (fun k => if k = 0 then aI else if k = 1 then aC else aB), (fun q : Nat => s.heap.size ≤ q), lw_Z below #[Value.ref b] s), (a0L adK adV b, 0, 4)), ⟨hx, hb, hml, hown, hAW, hr, hlocks, hKK, fun q hq => hq, Nat.le_of_ble_eq_true rfl, Nat.le_of_ble_eq_true rfl, Nat.le_of_ble_eq_true rfl, Nat.le_of_ble_eq_true rfl⟩, ⟨hXs, hbl, Nat.not_le.mpr hbl, rfl, rfl, rfl, rfl, fun q hq => hq⟩, rfl, fun hPW => ?_⟩
  have hl := lv_entry ([.ref b]) (n := 4) (Nat.le_of_ble_eq_true rfl)
  rw [lg_entry_eq]
  generalize (lg_sl ([.ref b]) ++ List.replicate (4 - (lg_sl ([.ref b])).length) Slot.unset).toArray = ls at hl ⊢
  have hl : lv_has ls 4 [(0, .ref b)] := hl
  refine hPW (a0L adK adV b) s.heap [] ls ⟨fun k q h => by simp [tW] at h, ⟨fun i j p q h => by simp [tW] at h, fun k q h => by simp [tW] at h⟩, va_S.rf, fun _ _ => rfl, ⟨hl.1, rfl, hl.2.1, fun i v hi => ?_⟩⟩
  match i, hi with
  | 0, hi =>
    cases hi
    exact ⟨rfl, hl.2.2 (0, .ref b) List.mem_cons_self⟩
  | 1, hi => cases hi
  | 2, hi => cases hi
  | 3, hi => cases hi
  | i + 4, hi => simp at hi
