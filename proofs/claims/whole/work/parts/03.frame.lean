/-! ===== a machine of our own over numbers of cells: refs are places in a list of cells, the addresses are a function of the places ===== -/
def AW : List Cond := lw_tbl.filter goodWord
def tV (a : Nat → Nat) : Value → Value
  | .ref i => .ref (a i)
  | .int x => .int x
  | .long x => .long x
  | .float x => .float x
  | .double x => .double x
  | .null => .null
  | .retAddr x => .retAddr x
theorem tV_cat (a : Nat → Nat) (v : Value) : (tV a v).category = v.category := by cases v <;> rfl
abbrev PCell : Type := (Nat × Nat × (Nat → Int32)) ⊕ (Nat × List Value)
def tC (ca : Nat → ClassId) (a : Nat → Nat) : PCell → va_E
  | .inl (t, n, f) => .inl (ca t, n, .inl f)
  | .inr (ci, fs) => .inr (ci, fs.map (tV a))
def tW (ca : Nat → ClassId) (a : Nat → Nat) (h : List PCell) : va_W := h.mapIdx (fun i c => (a i, tC ca a c))
theorem tW_at {ca : Nat → ClassId} {a : Nat → Nat} {h : List PCell} {i : Nat} {c : PCell} (e : h[i]? = some c) : (tW ca a h)[i]? = some (a i, tC ca a c) := by
  simp [tW, List.getElem?_mapIdx, e]
theorem tW_of {ca : Nat → ClassId} {a : Nat → Nat} {h : List PCell} {i : Nat} {q : Nat × va_E} (e : (tW ca a h)[i]? = some q) : ∃ c, h[i]? = some c ∧ q = (a i, tC ca a c) := by
  simp only [tW, List.getElem?_mapIdx, Option.map_eq_some_iff] at e
  obtain ⟨c, h1, h2⟩ := e
  exact ⟨c, h1, h2.symm⟩
theorem tW_set {ca : Nat → ClassId} {a : Nat → Nat} (h : List PCell) (i : Nat) (c : PCell) : (tW ca a h).set i (a i, tC ca a c) = tW ca a (h.set i c) := by
  apply List.ext_getElem?
  intro j
  simp only [tW, List.getElem?_set, List.getElem?_mapIdx, List.length_mapIdx]
  by_cases hij : i = j
  · subst hij
    by_cases hl : i < h.length <;> simp [hl]
  · simp [hij]
theorem tW_len {ca : Nat → ClassId} {a : Nat → Nat} (h : List PCell) : (tW ca a h).length = h.length := by simp [tW]
/-- which refs a value, a cell, a heap may hold -/
def okV (n : Nat) : Value → Bool
  | .ref i => Nat.blt i n || Nat.ble 1000 i
  | _ => true
def okC (n : Nat) : PCell → Bool
  | .inl _ => true
  | .inr (_, fs) => fs.all (okV n)
def okH (n : Nat) (h : List PCell) : Bool := h.all (okC n)
theorem tV_congr {a b : Nat → Nat} {n : Nat} (hab : ∀ i, i < n ∨ 1000 ≤ i → a i = b i) {v : Value} (hv : okV n v = true) : tV a v = tV b v := by
  cases v <;> simp only [tV]
  rename_i i
  simp only [okV, Bool.or_eq_true, Nat.blt_eq, Nat.ble_eq] at hv
  rw [hab i hv]
theorem tC_congr {ca : Nat → ClassId} {a b : Nat → Nat} {n : Nat} (hab : ∀ i, i < n ∨ 1000 ≤ i → a i = b i) {c : PCell} (hc : okC n c = true) : tC ca a c = tC ca b c := by
  rcases c with ⟨t, k, f⟩ | ⟨ci, fs⟩
  · rfl
  · simp only [tC]
    congr 2
    apply List.map_congr_left
    intro v hv
    exact tV_congr hab (List.all_eq_true.mp hc v hv)
theorem tW_congr {ca : Nat → ClassId} {a b : Nat → Nat} {n : Nat} (hab : ∀ i, i < n ∨ 1000 ≤ i → a i = b i) {h : List PCell} (hn : h.length ≤ n) (hc : okH n h = true) : tW ca a h = tW ca b h := by
  apply List.ext_getElem?
  intro j
  simp only [tW, List.getElem?_mapIdx]
  cases hj : h[j]? with
  | none => rfl
  | some c =>
    have hl : j < h.length := (List.getElem?_eq_some_iff.mp hj).1
    simp only [Option.map_some]
    rw [hab j (Or.inl (by omega)), tC_congr hab (List.all_eq_true.mp hc c (List.mem_of_getElem? hj))]
/-- renaming -/
def rC (ρ : Nat → Nat) : PCell → PCell
  | .inl x => .inl x
  | .inr (ci, fs) => .inr (ci, fs.map (tV ρ))
theorem tV_tV (a ρ : Nat → Nat) (v : Value) : tV a (tV ρ v) = tV (fun i => a (ρ i)) v := by cases v <;> rfl
theorem tC_rC (ca : Nat → ClassId) (a ρ : Nat → Nat) (c : PCell) : tC ca a (rC ρ c) = tC ca (fun i => a (ρ i)) c := by
  rcases c with ⟨t, k, f⟩ | ⟨ci, fs⟩
  · rfl
  · simp [tC, rC, tV_tV, Function.comp_def]
/-- the cells at the places of a list, put anew -/
def updH (h : List PCell) : List Nat → List PCell → List PCell
  | i :: is, c :: cs => updH (h.set i c) is cs
  | _, _ => h
theorem updH_len : ∀ (is : List Nat) (cs h : List PCell), (updH h is cs).length = h.length
  | [], cs, h => by simp [updH]
  | i :: is, [], h => by simp [updH]
  | i :: is, c :: cs, h => by simp [updH, updH_len is cs]
theorem updH_out : ∀ (is : List Nat) (cs h : List PCell) (j : Nat), j ∉ is → (updH h is cs)[j]? = h[j]?
  | [], cs, h, j, _ => by simp [updH]
  | i :: is, [], h, j, _ => by simp [updH]
  | i :: is, c :: cs, h, j, hj => by
    simp only [List.mem_cons, not_or] at hj
    rw [updH, updH_out is cs _ j hj.2, List.getElem?_set_ne (Ne.symm hj.1)]
theorem updH_in : ∀ (is : List Nat) (cs h : List PCell) (k j : Nat) (c : PCell), va_nd is = true → is[k]? = some j → cs[k]? = some c → j < h.length → (updH h is cs)[j]? = some c
  | [], cs, h, k, j, c, _, hk, _, _ => by simp at hk
  | i :: is, [], h, k, j, c, _, _, hc, _ => by simp at hc
  | i :: is, d :: cs, h, k, j, c, hn, hk, hc, hj => by
    simp only [va_nd, Bool.and_eq_true, decide_eq_true_eq] at hn
    cases k with
    | zero =>
      simp only [List.getElem?_cons_zero, Option.some.injEq] at hk hc
      subst hk; subst hc
      rw [updH, updH_out is cs _ i hn.1, List.getElem?_set_self hj]
    | succ k =>
      simp only [List.getElem?_cons_succ] at hk hc
      rw [updH]
      exact updH_in is cs _ k j c hn.2 hk hc (by simpa using hj)
/-! the locals -/
def lvS (a : Nat → Nat) (ls : Array Slot) (nL : Nat) (L : List (Option Value)) : Prop := ls.size = nL ∧ L.length = nL ∧ lv_wf ls ∧ ∀ (i : Nat) (v : Value), L[i]? = some (some v) → v.category = 1 ∧ ls[i]? = some (.val (tV a v))
def asc (a : Nat → Nat) (L : List (Option Value)) : List (Nat × Value) := (L.mapIdx (fun i o => o.map (fun v => (i, tV a v)))).filterMap id
theorem asc_mem {a : Nat → Nat} {L : List (Option Value)} {q : Nat × Value} : q ∈ asc a L ↔ ∃ i v, L[i]? = some (some v) ∧ q = (i, tV a v) := by
  simp only [asc, List.mem_filterMap, id]
  constructor
  · rintro ⟨o, h1, h2⟩
    obtain ⟨i, hi⟩ := List.getElem?_of_mem h1
    simp only [List.getElem?_mapIdx, Option.map_eq_some_iff] at hi
    obtain ⟨o', h3, h4⟩ := hi
    subst h2
    simp only [Option.map_eq_some_iff] at h4
    obtain ⟨v, h5, h6⟩ := h4
    subst h5
    exact ⟨i, v, h3, h6.symm⟩
  · rintro ⟨i, v, h1, rfl⟩
    refine ⟨some (i, tV a v), ?_, rfl⟩
    apply List.mem_of_getElem? (i := i)
    simp [List.getElem?_mapIdx, h1]
theorem lvS.has {a : Nat → Nat} {ls : Array Slot} {nL : Nat} {L : List (Option Value)} (h : lvS a ls nL L) : lv_has ls nL (asc a L) := by
  refine ⟨h.1, h.2.2.1, fun q hq => ?_⟩
  obtain ⟨i, v, h1, rfl⟩ := asc_mem.mp hq
  exact (h.2.2.2 i v h1).2
theorem lvS.store {a : Nat → Nat} {ls ls' : Array Slot} {nL : Nat} {L : List (Option Value)} (h : lvS a ls nL L) {i : Nat} {v : Value} (hv : v.category = 1) (h' : lv_has ls' nL ((i, tV a v) :: (asc a L).filter (fun q => !(q.1 == i) && !(q.1 + 1 == i && q.2.category == 2)))) : lvS a ls' nL (L.set i (some v)) := by
  refine ⟨h'.1, by simpa using h.2.1, h'.2.1, fun j w hj => ?_⟩
  rw [List.getElem?_set] at hj
  by_cases hij : i = j
  · subst hij
    simp only [if_true] at hj
    split at hj
    · cases hj
      exact ⟨hv, h'.2.2 _ List.mem_cons_self⟩
    · cases hj
  · rw [if_neg hij] at hj
    have hc := (h.2.2.2 j w hj).1
    refine ⟨hc, h'.2.2 (j, tV a w) (List.mem_cons_of_mem _ (List.mem_filter.mpr ⟨asc_mem.mpr ⟨j, w, hj, rfl⟩, ?_⟩))⟩
    have h1 : (j == i) = false := by simp [Ne.symm hij]
    have h2 : ((tV a w).category == 2) = false := by rw [tV_cat, hc]; rfl
    simp [h1, h2, Ne.symm hij]
theorem lvS_congr {a b : Nat → Nat} {n : Nat} (hab : ∀ i, i < n ∨ 1000 ≤ i → a i = b i) {ls : Array Slot} {nL : Nat} {L : List (Option Value)} (hL : L.all (fun o => o.all (okV n)) = true) (h : lvS a ls nL L) : lvS b ls nL L := by
  refine ⟨h.1, h.2.1, h.2.2.1, fun i v hi => ?_⟩
  have h1 := List.all_eq_true.mp hL _ (List.mem_of_getElem? hi)
  rw [← tV_congr hab (show okV n v = true from h1)]
  exact h.2.2.2 i v hi
/-! what is given in every method: classes, nest mates, the two texts -/
def nestW : List Cond := [.methodLinkNest RX6 11 yX1_init RX6, .methodLinkNest RX6 24 yX4_init RX6, .methodLinkNest RX6 31 yX2_init RX6, .methodLinkNest RX6 38 yX0_init RX6, .methodLinkNest RX6 45 yX3_init RX6, .methodLinkNest RX0 11 yX2_init RX6, .methodLinkNest RX0 20 yX5_init RX6, .methodLinkNest RX1 53 yX6_isOwner RX6, .methodLinkNest RX3 47 yX6_bitsUpTo RX6, .methodLinkNest RX5 53 yX6_hasBit RX6, .methodLinkNest RX5 76 yX6_bitsUpTo RX6]
def isNest : Cond → Bool
  | .methodLinkNest _ _ _ _ => true
  | _ => false
theorem nestW_is : ∀ w ∈ nestW, isNest w = true := by
  intro w hw
  simp only [nestW, List.mem_cons, List.not_mem_nil, or_false] at hw
  rcases hw with rfl | rfl | rfl | rfl | rfl | rfl | rfl | rfl | rfl | rfl | rfl <;> rfl
theorem nest_warm {s U : State} (hW : s.WarmedH U.vm) {w : Cond} (hw : isNest w = true) (h : va_Nw w s) : va_Nw w U := by
  cases w <;> first | (simp [isNest] at hw; done) | exact va_Nw.warmM hW h
theorem nest_same {u U : State} (hv : u.vm = U.vm) {w : Cond} (hw : isNest w = true) (h : va_Nw w u) : va_Nw w U := by
  cases w <;> first | (simp [isNest] at hw; done) | exact va_Nw.same rfl hv h
def tys3 (ca : Nat → ClassId) : List (ClassId × FieldType) := [(ca 0, .int), (ca 1, .char), (ca 2, .boolean)]
def txB : List (List Int32) := [[102, 115, 116, 111, 97, 98], [97, 111, 104, 110, 100, 99]]
def KK (D : va_G) (ca : Nat → ClassId) (a : Nat → Nat) (A : Nat → Prop) (U : State) (H : Heap) : Prop :=
  va_K D vwCl (tys3 ca) U ∧ (∀ w ∈ nestW, va_Nw w U) ∧ vk_S 2 [6, 6] txB (fun i => a (1000 + i)) (fun i => a (1010 + i)) A U H ∧ vk_R RX4 44 "fstoab" (a 1000) U ∧ vk_R RX4 57 "aohndc" (a 1001) U ∧ vk_R RX6 107 "fstoab" (a 1000) U ∧ va_Z "java/lang/String" "COMPACT_STRINGS" "Z" (.int 1) A U H
theorem KK.warm {D : va_G} {ca : Nat → ClassId} {a : Nat → Nat} {A : Nat → Prop} {s U : State} {H : Heap} (hW : s.WarmedH U.vm) (h : KK D ca a A s H) : KK D ca a A U H :=
  ⟨va_K.moved hW.alike h.1, fun w hw => nest_warm hW (nestW_is w hw) (h.2.1 w hw), vk_S.moved hW.alike h.2.2.1, vk_R.warm hW h.2.2.2.1, vk_R.warm hW h.2.2.2.2.1, vk_R.warm hW h.2.2.2.2.2.1, va_Z.moved hW.alike h.2.2.2.2.2.2⟩
theorem KK.same {D : va_G} {ca : Nat → ClassId} {a : Nat → Nat} {A : Nat → Prop} {u U : State} {H : Heap} (hv : u.vm = U.vm) (h : KK D ca a A u H) : KK D ca a A U H :=
  ⟨va_K.moved (by rw [hv]; exact Vm.Alike.refl _) h.1, fun w hw => nest_same hv (nestW_is w hw) (h.2.1 w hw), vk_S.moved (by rw [hv]; exact Vm.Alike.refl _) h.2.2.1, vk_R.same hv.symm h.2.2.2.1, vk_R.same hv.symm h.2.2.2.2.1, vk_R.same hv.symm h.2.2.2.2.2.1, va_Z.moved (by rw [hv]; exact Vm.Alike.refl _) h.2.2.2.2.2.2⟩
theorem KK.kept {D : va_G} {ca : Nat → ClassId} {a : Nat → Nat} {A B : Nat → Prop} {U : State} {H H1 : Heap} (h : KK D ca a A U H) (hq : ∀ q : Nat, q < H.size → ¬ A q → H1[q]? = H[q]?) (hAB : ∀ q, B q → A q) : KK D ca a B U H1 :=
  ⟨h.1, h.2.1, (h.2.2.1.kept hq).narrow hAB, h.2.2.2.1, h.2.2.2.2.1, h.2.2.2.2.2.1, (h.2.2.2.2.2.2.kept hq).narrow hAB⟩
theorem KK.re {D : va_G} {ca : Nat → ClassId} {a b : Nat → Nat} {A : Nat → Prop} {U : State} {H : Heap} (hab : ∀ i, 1000 ≤ i → a i = b i) (h : KK D ca a A U H) : KK D ca b A U H := by
  have e1 : (fun i => a (1000 + i)) = (fun i => b (1000 + i)) := funext fun i => hab _ (by omega)
  have e2 : (fun i => a (1010 + i)) = (fun i => b (1010 + i)) := funext fun i => hab _ (by omega)
  obtain ⟨h1, h2, h3, h4, h5, h6, h7⟩ := h
  rw [e1, e2] at h3
  rw [hab 1000 (by omega)] at h4 h6
  rw [hab 1001 (by omega)] at h5
  exact ⟨h1, h2, h3, h4, h5, h6, h7⟩
/-! the walk's context -/
def Cx : Type := (Program × Launch × Env × Room) × (State × MethodId × Array Value × List Frame) × (Method × Code) × (va_G × (Nat → ClassId) × (Nat → Prop) × (State → Prop)) × ((Nat → Nat) × Nat × Nat)
abbrev cxp (X : Cx) : Program := X.1.1
abbrev cxl (X : Cx) : Launch := X.1.2.1
abbrev cxe (X : Cx) : Env := X.1.2.2.1
abbrev cxR (X : Cx) : Room := X.1.2.2.2
abbrev cxs (X : Cx) : State := X.2.1.1
abbrev cxm (X : Cx) : MethodId := X.2.1.2.1
abbrev cxg (X : Cx) : Array Value := X.2.1.2.2.1
abbrev cxb (X : Cx) : List Frame := X.2.1.2.2.2
abbrev cxM (X : Cx) : Method := X.2.2.1.1
abbrev cxc (X : Cx) : Code := X.2.2.1.2
abbrev cxD (X : Cx) : va_G := X.2.2.2.1.1
abbrev cxk (X : Cx) : Nat → ClassId := X.2.2.2.1.2.1
abbrev cxA (X : Cx) : Nat → Prop := X.2.2.2.1.2.2.1
abbrev cxQ (X : Cx) : State → Prop := X.2.2.2.1.2.2.2
abbrev cxa (X : Cx) : Nat → Nat := X.2.2.2.2.1
abbrev cxn (X : Cx) : Nat := X.2.2.2.2.2.1
abbrev cxL (X : Cx) : Nat := X.2.2.2.2.2.2
def Sm (X : Cx) (a : Nat → Nat) (H : Heap) (locs : List Loc) (ls : Array Slot) (L : List (Option Value)) (h : List PCell) : Prop :=
  va_P (cxD X) vwCl (tW (cxk X) a h) H ∧ va_D (cxA X) (tW (cxk X) a h) ∧ va_S (cxA X) (cxs X).heap H locs ∧ (∀ i, i < cxn X ∨ 1000 ≤ i → a i = cxa X i) ∧ lvS a ls (cxL X) L
def WW (X : Cx) (H : Heap) (locs : List Loc) (kc ks pc : Nat) (ls : Array Slot) (st : List Value) : Prop := W (cxp X) (cxl X) (cxe X) (cxR X) (cxs X) (cxm X) (cxg X) (cxb X) (cxM X) (cxc X) H locs kc ks (cxQ X) (F0 (cxm X) pc ls st)
def PW (X : Cx) (pc : Nat) (L : List (Option Value)) (st : List Value) (h : List PCell) (kc ks : Nat) : Prop :=
  ∀ (a : Nat → Nat) (H : Heap) (locs : List Loc) (ls : Array Slot), Sm X a H locs ls L h → WW X H locs kc ks pc ls (st.map (tV a))
/-- what holds of a context: d deep may be called, so many cells and slots may come -/
def Fx (X : Cx) (cc : ByteArray) (own : String) (ret : Option FieldType) (d mc ms : Nat) : Prop :=
  (cxp X).tables.exec = Jvm.exec ∧ (cxc X).code = cc ∧ (cxc X).maxLocals = cxL X ∧ (cxs X).vm.findClass own = some (cxm X).cls ∧ (∀ w ∈ AW, w.before (cxg X) (cxs X) = true) ∧ (cxM X).sig.returnType = ret ∧ (cxM X).locks = false ∧ KK (cxD X) (cxk X) (cxa X) (cxA X) (cxs X) (cxs X).heap ∧ (∀ q, (cxs X).heap.size ≤ q → cxA X q) ∧ (d ≤ (cxR X).frames ∧ 32 * d ≤ (cxR X).locals ∧ mc ≤ (cxR X).cells ∧ ms ≤ (cxR X).slots)
section Rules
variable {X : Cx} {cc : ByteArray} {own : String} {ret : Option FieldType} {d mc ms : Nat} {pc : Nat} {L : List (Option Value)} {st : List Value} {h : List PCell} {kc ks : Nat}
theorem Fx.x (hX : Fx X cc own ret d mc ms) : (cxp X).tables.exec = Jvm.exec := hX.1
theorem Fx.b (hX : Fx X cc own ret d mc ms) : (cxc X).code = cc := hX.2.1
theorem Fx.ml (hX : Fx X cc own ret d mc ms) : (cxc X).maxLocals = cxL X := hX.2.2.1
theorem Fx.ow (hX : Fx X cc own ret d mc ms) : (cxs X).vm.findClass own = some (cxm X).cls := hX.2.2.2.1
theorem Fx.ts (hX : Fx X cc own ret d mc ms) : ∀ w ∈ AW, w.before (cxg X) (cxs X) = true := hX.2.2.2.2.1
theorem Fx.rt (hX : Fx X cc own ret d mc ms) : (cxM X).sig.returnType = ret := hX.2.2.2.2.2.1
theorem Fx.lk (hX : Fx X cc own ret d mc ms) : (cxM X).locks = false := hX.2.2.2.2.2.2.1
theorem Fx.K (hX : Fx X cc own ret d mc ms) : KK (cxD X) (cxk X) (cxa X) (cxA X) (cxs X) (cxs X).heap := hX.2.2.2.2.2.2.2.1
theorem Fx.A (hX : Fx X cc own ret d mc ms) : ∀ q, (cxs X).heap.size ≤ q → cxA X q := hX.2.2.2.2.2.2.2.2.1
theorem Fx.r (hX : Fx X cc own ret d mc ms) : d ≤ (cxR X).frames ∧ 32 * d ≤ (cxR X).locals ∧ mc ≤ (cxR X).cells ∧ ms ≤ (cxR X).slots := hX.2.2.2.2.2.2.2.2.2
theorem PW.iconst (hX : Fx X cc own ret d mc ms) {n : Int} {v : Int32} (hd : decode cc pc = .ok (.iconst n, 1)) (hv : Int32.ofInt n = v) (k : PW X (pc + 1) L (.int v :: st) h kc ks) : PW X pc L st h kc ks := fun a H locs ls S => lv_iconst hX.x hX.b hd hv (k a H locs ls S)
theorem PW.bipush (hX : Fx X cc own ret d mc ms) {n : Int} {v : Int32} (hd : decode cc pc = .ok (.bipush n, 2)) (hv : (Int8.ofInt n).toInt32 = v) (k : PW X (pc + 2) L (.int v :: st) h kc ks) : PW X pc L st h kc ks := fun a H locs ls S => lv_bipush hX.x hX.b hd hv (k a H locs ls S)
theorem PW.sipush (hX : Fx X cc own ret d mc ms) {n : Int} {v : Int32} (hd : decode cc pc = .ok (.sipush n, 3)) (hv : (Int16.ofInt n).toInt32 = v) (k : PW X (pc + 3) L (.int v :: st) h kc ks) : PW X pc L st h kc ks := fun a H locs ls S => lv_sipush hX.x hX.b hd hv (k a H locs ls S)
theorem PW.ldc (hX : Fx X cc own ret d mc ms) {n : Nat} {v : Int32} (hd : decode cc pc = .ok (.ldc n, 2)) (hc : Cond.constant own n v ∈ AW) (k : PW X (pc + 2) L (.int v :: st) h kc ks) : PW X pc L st h kc ks := fun a H locs ls S => lv_ldc hX.x hX.b hX.ow (hX.ts _ hc) hd (k a H locs ls S)
theorem PW.iload_n (hX : Fx X cc own ret d mc ms) {q : Fin 4} {i : Nat} {x : Int32} (hd : decode cc pc = .ok (.iload_n q, 1)) (hi : (q : Nat) = i) (hl : L[i]? = some (some (.int x))) (k : PW X (pc + 1) L (.int x :: st) h kc ks) : PW X pc L st h kc ks := fun a H locs ls S => lv_iload_n hX.x hX.b hd hi (S.2.2.2.2.2.2.2 i _ hl).2 (k a H locs ls S)
theorem PW.iload (hX : Fx X cc own ret d mc ms) {i : Nat} {x : Int32} (hd : decode cc pc = .ok (.iload i, 2)) (hl : L[i]? = some (some (.int x))) (k : PW X (pc + 2) L (.int x :: st) h kc ks) : PW X pc L st h kc ks := fun a H locs ls S => lv_iload hX.x hX.b hd (S.2.2.2.2.2.2.2 i _ hl).2 (k a H locs ls S)
theorem PW.aload_n (hX : Fx X cc own ret d mc ms) {q : Fin 4} {i : Nat} {x : Nat} (hd : decode cc pc = .ok (.aload_n q, 1)) (hi : (q : Nat) = i) (hl : L[i]? = some (some (.ref x))) (k : PW X (pc + 1) L (.ref x :: st) h kc ks) : PW X pc L st h kc ks := fun a H locs ls S => lv_aload_n hX.x hX.b hd hi (S.2.2.2.2.2.2.2 i _ hl).2 (k a H locs ls S)
theorem PW.aload (hX : Fx X cc own ret d mc ms) {i : Nat} {x : Nat} (hd : decode cc pc = .ok (.aload i, 2)) (hl : L[i]? = some (some (.ref x))) (k : PW X (pc + 2) L (.ref x :: st) h kc ks) : PW X pc L st h kc ks := fun a H locs ls S => lv_aload hX.x hX.b hd (S.2.2.2.2.2.2.2 i _ hl).2 (k a H locs ls S)
theorem Sm.sto {a : Nat → Nat} {H : Heap} {locs : List Loc} {ls ls' : Array Slot} (S : Sm X a H locs ls L h) {i : Nat} {v : Value} (hv : v.category = 1) (h' : lv_has ls' (cxL X) ((i, tV a v) :: (asc a L).filter (fun q => !(q.1 == i) && !(q.1 + 1 == i && q.2.category == 2)))) : Sm X a H locs ls' (L.set i (some v)) h := ⟨S.1, S.2.1, S.2.2.1, S.2.2.2.1, S.2.2.2.2.store hv h'⟩
theorem Sm.lt {a : Nat → Nat} {H : Heap} {locs : List Loc} {ls : Array Slot} (S : Sm X a H locs ls L h) {i : Nat} (hi : Nat.blt i L.length = true) : i < cxL X := by
  rw [← S.2.2.2.2.2.1]; exact Nat.blt_eq.mp hi
theorem PW.istore_n (hX : Fx X cc own ret d mc ms) {q : Fin 4} {i : Nat} {x : Int32} (hd : decode cc pc = .ok (.istore_n q, 1)) (hi : (q : Nat) = i) (hl : Nat.blt i L.length = true) (k : PW X (pc + 1) (L.set i (some (.int x))) st h kc ks) : PW X pc L (.int x :: st) h kc ks := fun a H locs ls S => lv_istore_n hX.x hX.b hd hi S.2.2.2.2.has (S.lt hl) rfl (fun ls' h' => k a H locs ls' (S.sto (v := .int x) rfl h'))
theorem PW.istore (hX : Fx X cc own ret d mc ms) {i : Nat} {x : Int32} (hd : decode cc pc = .ok (.istore i, 2)) (hl : Nat.blt i L.length = true) (k : PW X (pc + 2) (L.set i (some (.int x))) st h kc ks) : PW X pc L (.int x :: st) h kc ks := fun a H locs ls S => lv_istore hX.x hX.b hd S.2.2.2.2.has (S.lt hl) rfl (fun ls' h' => k a H locs ls' (S.sto (v := .int x) rfl h'))
theorem PW.astore_n (hX : Fx X cc own ret d mc ms) {q : Fin 4} {i : Nat} {x : Nat} (hd : decode cc pc = .ok (.astore_n q, 1)) (hi : (q : Nat) = i) (hl : Nat.blt i L.length = true) (k : PW X (pc + 1) (L.set i (some (.ref x))) st h kc ks) : PW X pc L (.ref x :: st) h kc ks := fun a H locs ls S => lv_astore_n hX.x hX.b hd hi S.2.2.2.2.has (S.lt hl) rfl (fun ls' h' => k a H locs ls' (S.sto (v := .ref x) rfl h'))
theorem PW.astore (hX : Fx X cc own ret d mc ms) {i : Nat} {x : Nat} (hd : decode cc pc = .ok (.astore i, 2)) (hl : Nat.blt i L.length = true) (k : PW X (pc + 2) (L.set i (some (.ref x))) st h kc ks) : PW X pc L (.ref x :: st) h kc ks := fun a H locs ls S => lv_astore hX.x hX.b hd S.2.2.2.2.has (S.lt hl) rfl (fun ls' h' => k a H locs ls' (S.sto (v := .ref x) rfl h'))
theorem PW.iinc (hX : Fx X cc own ret d mc ms) {i : Nat} {n : Int} {x v : Int32} (hd : decode cc pc = .ok (.iinc i n, 3)) (hl : L[i]? = some (some (.int x))) (hv : x + Int32.ofInt n = v) (k : PW X (pc + 3) (L.set i (some (.int v))) st h kc ks) : PW X pc L st h kc ks := by
  intro a H locs ls S
  obtain ⟨j, hj⟩ := List.getElem?_of_mem (asc_mem (a := a) (L := L) (q := (i, .int x)).mpr ⟨i, .int x, hl, rfl⟩)
  exact lv_iinc hX.x hX.b hd S.2.2.2.2.has (k := j) hj hv (by rw [← S.2.2.2.2.2.1]; exact (List.getElem?_eq_some_iff.mp hl).1) rfl (fun ls' h' => k a H locs ls' (S.sto (v := .int v) rfl h'))
theorem PW.iadd (hX : Fx X cc own ret d mc ms) {x y : Int32} (hd : decode cc pc = .ok (.iadd, 1)) (k : PW X (pc + 1) L (.int (x + y) :: st) h kc ks) : PW X pc L (.int y :: .int x :: st) h kc ks := fun a H locs ls S => lv_iadd hX.x hX.b hd (k a H locs ls S)
theorem PW.isub (hX : Fx X cc own ret d mc ms) {x y : Int32} (hd : decode cc pc = .ok (.isub, 1)) (k : PW X (pc + 1) L (.int (x - y) :: st) h kc ks) : PW X pc L (.int y :: .int x :: st) h kc ks := fun a H locs ls S => lv_isub hX.x hX.b hd (k a H locs ls S)
theorem PW.imul (hX : Fx X cc own ret d mc ms) {x y : Int32} (hd : decode cc pc = .ok (.imul, 1)) (k : PW X (pc + 1) L (.int (x * y) :: st) h kc ks) : PW X pc L (.int y :: .int x :: st) h kc ks := fun a H locs ls S => lv_imul hX.x hX.b hd (k a H locs ls S)
theorem PW.iand (hX : Fx X cc own ret d mc ms) {x y : Int32} (hd : decode cc pc = .ok (.iand, 1)) (k : PW X (pc + 1) L (.int (x &&& y) :: st) h kc ks) : PW X pc L (.int y :: .int x :: st) h kc ks := fun a H locs ls S => lv_iand hX.x hX.b hd (k a H locs ls S)
theorem PW.ior (hX : Fx X cc own ret d mc ms) {x y : Int32} (hd : decode cc pc = .ok (.ior, 1)) (k : PW X (pc + 1) L (.int (x ||| y) :: st) h kc ks) : PW X pc L (.int y :: .int x :: st) h kc ks := fun a H locs ls S => lv_ior hX.x hX.b hd (k a H locs ls S)
theorem PW.ixor (hX : Fx X cc own ret d mc ms) {x y : Int32} (hd : decode cc pc = .ok (.ixor, 1)) (k : PW X (pc + 1) L (.int (x ^^^ y) :: st) h kc ks) : PW X pc L (.int y :: .int x :: st) h kc ks := fun a H locs ls S => lv_ixor hX.x hX.b hd (k a H locs ls S)
theorem PW.idiv (hX : Fx X cc own ret d mc ms) {x y : Int32} (hd : decode cc pc = .ok (.idiv, 1)) (hy : ¬ y = 0) (k : PW X (pc + 1) L (.int (x / y) :: st) h kc ks) : PW X pc L (.int y :: .int x :: st) h kc ks := fun a H locs ls S => lv_idiv hX.x hX.b hd hy (k a H locs ls S)
theorem PW.irem (hX : Fx X cc own ret d mc ms) {x y : Int32} (hd : decode cc pc = .ok (.irem, 1)) (hy : ¬ y = 0) (k : PW X (pc + 1) L (.int (x - x / y * y) :: st) h kc ks) : PW X pc L (.int y :: .int x :: st) h kc ks := fun a H locs ls S => lv_irem hX.x hX.b hd hy (k a H locs ls S)
theorem PW.ishl (hX : Fx X cc own ret d mc ms) {x y : Int32} (hd : decode cc pc = .ok (.ishl, 1)) (k : PW X (pc + 1) L (.int (x <<< (y &&& 31)) :: st) h kc ks) : PW X pc L (.int y :: .int x :: st) h kc ks := fun a H locs ls S => lv_ishl hX.x hX.b hd (k a H locs ls S)
theorem PW.ishr (hX : Fx X cc own ret d mc ms) {x y : Int32} (hd : decode cc pc = .ok (.ishr, 1)) (k : PW X (pc + 1) L (.int (x >>> (y &&& 31)) :: st) h kc ks) : PW X pc L (.int y :: .int x :: st) h kc ks := fun a H locs ls S => lv_ishr hX.x hX.b hd (k a H locs ls S)
theorem PW.ineg (hX : Fx X cc own ret d mc ms) {x : Int32} (hd : decode cc pc = .ok (.ineg, 1)) (k : PW X (pc + 1) L (.int (-x) :: st) h kc ks) : PW X pc L (.int x :: st) h kc ks := fun a H locs ls S => lv_ineg hX.x hX.b hd (k a H locs ls S)
theorem PW.i2c (hX : Fx X cc own ret d mc ms) {x v : Int32} (hd : decode cc pc = .ok (.i2c, 1)) (hv : (x.toUInt32 % 65536).toInt32 = v) (k : PW X (pc + 1) L (.int v :: st) h kc ks) : PW X pc L (.int x :: st) h kc ks := fun a H locs ls S => lv_i2c hX.x hX.b hd hv (k a H locs ls S)
theorem PW.i2b (hX : Fx X cc own ret d mc ms) {x v : Int32} (hd : decode cc pc = .ok (.i2b, 1)) (hv : x.toInt8.toInt32 = v) (k : PW X (pc + 1) L (.int v :: st) h kc ks) : PW X pc L (.int x :: st) h kc ks := fun a H locs ls S => lv_i2b hX.x hX.b hd hv (k a H locs ls S)
theorem PW.dup (hX : Fx X cc own ret d mc ms) {v : Value} (hd : decode cc pc = .ok (.dup, 1)) (hv : v.category = 1) (k : PW X (pc + 1) L (v :: v :: st) h kc ks) : PW X pc L (v :: st) h kc ks := fun a H locs ls S => lv_dup hX.x hX.b hd (by rw [tV_cat]; exact hv) (k a H locs ls S)
theorem PW.dup2 (hX : Fx X cc own ret d mc ms) {v w : Value} (hd : decode cc pc = .ok (.dup2, 1)) (hv : v.category = 1) (hw : w.category = 1) (k : PW X (pc + 1) L (v :: w :: v :: w :: st) h kc ks) : PW X pc L (v :: w :: st) h kc ks := fun a H locs ls S => lv_dup2_11 hX.x hX.b hd (by rw [tV_cat]; exact hv) (by rw [tV_cat]; exact hw) (k a H locs ls S)
theorem PW.pop (hX : Fx X cc own ret d mc ms) {v : Value} (hd : decode cc pc = .ok (.pop, 1)) (hv : v.category = 1) (k : PW X (pc + 1) L st h kc ks) : PW X pc L (v :: st) h kc ks := fun a H locs ls S => lv_pop hX.x hX.b hd (by rw [tV_cat]; exact hv) (k a H locs ls S)
theorem PW.goto (hX : Fx X cc own ret d mc ms) {off : Int} {tgt : Nat} (hd : decode cc pc = .ok (.goto off, 3)) (ht : (pc : Int) + off = (tgt : Int)) (k : PW X tgt L st h kc ks) : PW X pc L st h kc ks := fun a H locs ls S => lv_goto hX.x hX.b hd ht (k a H locs ls S)
theorem PW.if_eq (hX : Fx X cc own ret d mc ms) {x : Int32} {off : Int} {tgt : Nat} (hd : decode cc pc = .ok (.ifCond .eq off, 3)) (ht : (pc : Int) + off = (tgt : Int)) (kt : x = 0 → PW X tgt L st h kc ks) (kf : ¬ x = 0 → PW X (pc + 3) L st h kc ks) : PW X pc L (.int x :: st) h kc ks := fun a H locs ls S => lv_if_eq hX.x hX.b hd ht (fun c => kt c a H locs ls S) (fun c => kf c a H locs ls S)
theorem PW.if_ne (hX : Fx X cc own ret d mc ms) {x : Int32} {off : Int} {tgt : Nat} (hd : decode cc pc = .ok (.ifCond .ne off, 3)) (ht : (pc : Int) + off = (tgt : Int)) (kt : ¬ x = 0 → PW X tgt L st h kc ks) (kf : x = 0 → PW X (pc + 3) L st h kc ks) : PW X pc L (.int x :: st) h kc ks := fun a H locs ls S => lv_if_ne hX.x hX.b hd ht (fun c => kt c a H locs ls S) (fun c => kf c a H locs ls S)
theorem PW.if_lt (hX : Fx X cc own ret d mc ms) {x : Int32} {off : Int} {tgt : Nat} (hd : decode cc pc = .ok (.ifCond .lt off, 3)) (ht : (pc : Int) + off = (tgt : Int)) (kt : x < 0 → PW X tgt L st h kc ks) (kf : ¬ x < 0 → PW X (pc + 3) L st h kc ks) : PW X pc L (.int x :: st) h kc ks := fun a H locs ls S => lv_if_lt hX.x hX.b hd ht (fun c => kt c a H locs ls S) (fun c => kf c a H locs ls S)
theorem PW.if_ge (hX : Fx X cc own ret d mc ms) {x : Int32} {off : Int} {tgt : Nat} (hd : decode cc pc = .ok (.ifCond .ge off, 3)) (ht : (pc : Int) + off = (tgt : Int)) (kt : 0 ≤ x → PW X tgt L st h kc ks) (kf : ¬ 0 ≤ x → PW X (pc + 3) L st h kc ks) : PW X pc L (.int x :: st) h kc ks := fun a H locs ls S => lv_if_ge hX.x hX.b hd ht (fun c => kt c a H locs ls S) (fun c => kf c a H locs ls S)
theorem PW.if_gt (hX : Fx X cc own ret d mc ms) {x : Int32} {off : Int} {tgt : Nat} (hd : decode cc pc = .ok (.ifCond .gt off, 3)) (ht : (pc : Int) + off = (tgt : Int)) (kt : 0 < x → PW X tgt L st h kc ks) (kf : ¬ 0 < x → PW X (pc + 3) L st h kc ks) : PW X pc L (.int x :: st) h kc ks := fun a H locs ls S => lv_if_gt hX.x hX.b hd ht (fun c => kt c a H locs ls S) (fun c => kf c a H locs ls S)
theorem PW.if_le (hX : Fx X cc own ret d mc ms) {x : Int32} {off : Int} {tgt : Nat} (hd : decode cc pc = .ok (.ifCond .le off, 3)) (ht : (pc : Int) + off = (tgt : Int)) (kt : x ≤ 0 → PW X tgt L st h kc ks) (kf : ¬ x ≤ 0 → PW X (pc + 3) L st h kc ks) : PW X pc L (.int x :: st) h kc ks := fun a H locs ls S => lv_if_le hX.x hX.b hd ht (fun c => kt c a H locs ls S) (fun c => kf c a H locs ls S)
theorem PW.icmp_eq (hX : Fx X cc own ret d mc ms) {x y : Int32} {off : Int} {tgt : Nat} (hd : decode cc pc = .ok (.if_icmp .eq off, 3)) (ht : (pc : Int) + off = (tgt : Int)) (kt : x = y → PW X tgt L st h kc ks) (kf : ¬ x = y → PW X (pc + 3) L st h kc ks) : PW X pc L (.int y :: .int x :: st) h kc ks := fun a H locs ls S => lv_icmp_eq hX.x hX.b hd ht (fun c => kt c a H locs ls S) (fun c => kf c a H locs ls S)
theorem PW.icmp_ne (hX : Fx X cc own ret d mc ms) {x y : Int32} {off : Int} {tgt : Nat} (hd : decode cc pc = .ok (.if_icmp .ne off, 3)) (ht : (pc : Int) + off = (tgt : Int)) (kt : ¬ x = y → PW X tgt L st h kc ks) (kf : x = y → PW X (pc + 3) L st h kc ks) : PW X pc L (.int y :: .int x :: st) h kc ks := fun a H locs ls S => lv_icmp_ne hX.x hX.b hd ht (fun c => kt c a H locs ls S) (fun c => kf c a H locs ls S)
theorem PW.icmp_lt (hX : Fx X cc own ret d mc ms) {x y : Int32} {off : Int} {tgt : Nat} (hd : decode cc pc = .ok (.if_icmp .lt off, 3)) (ht : (pc : Int) + off = (tgt : Int)) (kt : x < y → PW X tgt L st h kc ks) (kf : ¬ x < y → PW X (pc + 3) L st h kc ks) : PW X pc L (.int y :: .int x :: st) h kc ks := fun a H locs ls S => lv_icmp_lt hX.x hX.b hd ht (fun c => kt c a H locs ls S) (fun c => kf c a H locs ls S)
theorem PW.icmp_ge (hX : Fx X cc own ret d mc ms) {x y : Int32} {off : Int} {tgt : Nat} (hd : decode cc pc = .ok (.if_icmp .ge off, 3)) (ht : (pc : Int) + off = (tgt : Int)) (kt : y ≤ x → PW X tgt L st h kc ks) (kf : ¬ y ≤ x → PW X (pc + 3) L st h kc ks) : PW X pc L (.int y :: .int x :: st) h kc ks := fun a H locs ls S => lv_icmp_ge hX.x hX.b hd ht (fun c => kt c a H locs ls S) (fun c => kf c a H locs ls S)
theorem PW.icmp_gt (hX : Fx X cc own ret d mc ms) {x y : Int32} {off : Int} {tgt : Nat} (hd : decode cc pc = .ok (.if_icmp .gt off, 3)) (ht : (pc : Int) + off = (tgt : Int)) (kt : y < x → PW X tgt L st h kc ks) (kf : ¬ y < x → PW X (pc + 3) L st h kc ks) : PW X pc L (.int y :: .int x :: st) h kc ks := fun a H locs ls S => lv_icmp_gt hX.x hX.b hd ht (fun c => kt c a H locs ls S) (fun c => kf c a H locs ls S)
theorem PW.icmp_le (hX : Fx X cc own ret d mc ms) {x y : Int32} {off : Int} {tgt : Nat} (hd : decode cc pc = .ok (.if_icmp .le off, 3)) (ht : (pc : Int) + off = (tgt : Int)) (kt : x ≤ y → PW X tgt L st h kc ks) (kf : ¬ x ≤ y → PW X (pc + 3) L st h kc ks) : PW X pc L (.int y :: .int x :: st) h kc ks := fun a H locs ls S => lv_icmp_le hX.x hX.b hd ht (fun c => kt c a H locs ls S) (fun c => kf c a H locs ls S)
theorem PW.tableIn (hX : Fx X cc own ret d mc ms) {dflt lo hi : Int} {offs : Array Int} {len : Nat} {x : Int32} {off : Int} {tgt : Nat} (hd : decode cc pc = .ok (.tableswitch dflt lo hi offs, len)) (h1 : ¬ x.toInt < lo) (h2 : ¬ hi < x.toInt) (ho : offs[(x.toInt - lo).toNat]? = some off) (ht : (pc : Int) + off = (tgt : Int)) (k : PW X tgt L st h kc ks) : PW X pc L (.int x :: st) h kc ks := fun a H locs ls S => lv_tableIn hX.x hX.b hd h1 h2 ho ht (k a H locs ls S)
theorem PW.tableOut (hX : Fx X cc own ret d mc ms) {dflt lo hi : Int} {offs : Array Int} {len : Nat} {x : Int32} {tgt : Nat} (hd : decode cc pc = .ok (.tableswitch dflt lo hi offs, len)) (hx : x.toInt < lo ∨ hi < x.toInt) (ht : (pc : Int) + dflt = (tgt : Int)) (k : PW X tgt L st h kc ks) : PW X pc L (.int x :: st) h kc ks := fun a H locs ls S => lv_tableOut hX.x hX.b hd hx ht (k a H locs ls S)
theorem PW.lookup (hX : Fx X cc own ret d mc ms) {dflt : Int} {ps : Array (Int × Int)} {len : Nat} {x : Int32} {off : Int} {tgt : Nat} (hd : decode cc pc = .ok (.lookupswitch dflt ps, len)) (hp : (ps.toList.zip (ps.toList.drop 1)).all (fun (a, next) => a.1 < next.1) = true) (ho : Op.lookupswitch.offset ps.toList dflt x.toInt = off) (ht : (pc : Int) + off = (tgt : Int)) (k : PW X tgt L st h kc ks) : PW X pc L (.int x :: st) h kc ks := fun a H locs ls S => lv_lookup hX.x hX.b hd hp ho ht (k a H locs ls S)
/-- rewriting the top, the locals, the heap -/
theorem PW.top {x y : Int32} (e : x = y) (k : PW X pc L (.int y :: st) h kc ks) : PW X pc L (.int x :: st) h kc ks := e ▸ k
theorem PW.heap {h' : List PCell} (e : h = h') (k : PW X pc L st h' kc ks) : PW X pc L st h kc ks := e ▸ k
theorem PW.eq {L' : List (Option Value)} {st' : List Value} {h' : List PCell} (k : PW X pc L' st' h' kc ks) (e1 : L = L') (e2 : st = st') (e3 : h = h') : PW X pc L st h kc ks := by subst e1; subst e2; subst e3; exact k
theorem PW.widen {kc' ks' : Nat} (h1 : kc ≤ kc') (h2 : ks ≤ ks') (k : PW X pc L st h kc' ks') : PW X pc L st h kc ks := fun a H locs ls S => W.widen h1 h2 (k a H locs ls S)
theorem Sm.forget {a : Nat → Nat} {H : Heap} {locs : List Loc} {ls : Array Slot} (n : Nat) (S : Sm X a H locs ls L h) : Sm X a H locs ls L (h.take n) := by
  have key : ∀ (k : Nat) (q : Nat × va_E), (tW (cxk X) a (h.take n))[k]? = some q → (tW (cxk X) a h)[k]? = some q := by
    intro k q hk
    obtain ⟨c, h1, rfl⟩ := tW_of hk
    rw [List.getElem?_take] at h1
    split at h1
    · exact tW_at h1
    · cases h1
  exact ⟨fun k q hk => S.1 k q (key k q hk), ⟨fun i j p q hi hj e => S.2.1.1 i j p q (key i p hi) (key j q hj) e, fun k q hk => S.2.1.2 k q (key k q hk)⟩, S.2.2⟩
theorem PW.forget (n : Nat) (k : PW X pc L st (h.take n) kc ks) : PW X pc L st h kc ks := fun a H locs ls S => k a H locs ls (S.forget n)
/-! fields -/
def FL (own : String) (idx ci k : Nat) : Prop := ∃ (C : String) (T : u_T) (N : Nat), vwCl[ci]? = some (C, T, N) ∧ k < N ∧ (∀ w ∈ u_ws C T N, w ∈ AW) ∧ Cond.fieldLink own idx (T k).1 (T k).2.1 (T k).2.2.1 ∈ AW
def FP (own : String) (idx ci k : Nat) (ty : FieldType) (fin : Bool) : Prop := ∃ (C : String) (T : u_T) (N : Nat) (ty0 : Nat → FieldType), vwCl[ci]? = some (C, T, N) ∧ k < N ∧ (∀ w ∈ u_ws C T N, w ∈ AW) ∧ Cond.fieldLink own idx (T k).1 (T k).2.1 (T k).2.2.1 ∈ AW ∧ (∀ k, k < N → parseFieldDescriptor (T k).2.2.1 = some (ty0 k)) ∧ (∀ a, a < N → ∀ b, b < N → a ≠ b → (T a).2.1 ≠ (T b).2.1) ∧ ty0 k = ty ∧ (T k).2.2.2 = fin ∧ (fin = true → (T k).1 = own)
theorem PW.getfield (hX : Fx X cc own ret d mc ms) {idx ci k i : Nat} {fs : List Value} {v : Value} (hf : FL own idx ci k) (hd : decode cc pc = .ok (.getfield idx, 3)) (he : h[i]? = some (.inr (ci, fs))) (hv : fs[k]? = some v) (kk : PW X (pc + 3) L (v :: st) h kc ks) : PW X pc L (.ref i :: st) h kc ks := by
  obtain ⟨C, T, N, hc, hk, hin, hl⟩ := hf
  intro a H locs ls S
  exact va_get (D := cxD X) hX.x hX.b hX.ts hin hX.ow hX.K.1 S.1 i (tW_at he) hc k hk (hX.ts _ hl) (fun _ h => h) (by rw [List.getElem?_map, hv]; rfl) hd (kk a H locs ls S)
theorem tC_put {ca : Nat → ClassId} {a : Nat → Nat} (ci k : Nat) (fs : List Value) (v : Value) : (Sum.inr (ci, (fs.map (tV a)).set k (tV a v)) : va_E) = tC ca a (.inr (ci, fs.set k v)) := by
  simp [tC, List.map_set]
theorem Sm.put {a : Nat → Nat} {H H1 : Heap} {locs locs1 : List Loc} {ls : Array Slot} (S : Sm X a H locs ls L h) {i : Nat} {c : PCell} (h1 : va_P (cxD X) vwCl ((tW (cxk X) a h).set i (a i, tC (cxk X) a c)) H1) (h2 : va_D (cxA X) ((tW (cxk X) a h).set i (a i, tC (cxk X) a c))) (h3 : va_S (cxA X) (cxs X).heap H1 locs1) : Sm X a H1 locs1 ls L (h.set i c) := by
  rw [tW_set] at h1 h2
  exact ⟨h1, h2, h3, S.2.2.2⟩
theorem PW.putV (hX : Fx X cc own ret d mc ms) {idx ci k i : Nat} {ty : FieldType} {fs : List Value} {v : Value} (hf : FP own idx ci k ty false) (hd : decode cc pc = .ok (.putfield idx, 3)) (hn : ∀ a, narrow ty (tV a v) = tV a v ∧ fits ty (tV a v) = true) (he : h[i]? = some (.inr (ci, fs))) (hv : Nat.blt k fs.length = true) (kk : PW X (pc + 3) L st (h.set i (.inr (ci, fs.set k v))) kc ks) : PW X pc L (v :: .ref i :: st) h kc ks := by
  obtain ⟨C, T, N, ty0, hc, hk, hin, hl, hty, hnm, e1, e2, e3⟩ := hf
  intro a H locs ls S
  refine va_put (D := cxD X) (ty := ty) hX.x hX.b hX.ts hin ty0 hty hnm hX.ow hX.K.1 S.1 S.2.1 S.2.2.1 i (tW_at he) hc k hk (hX.ts _ hl) (fun _ h => h) e2 (by rw [hty k hk, e1]) (hn a).1 (hn a).2 (by rw [List.length_map]; exact Nat.blt_eq.mp hv) hd (fun H1 locs1 h1 h2 h3 => ?_)
  rw [tC_put (ca := cxk X)] at h1 h2
  exact kk a H1 locs1 ls (S.put h1 h2 h3)
theorem PW.putI (hX : Fx X cc own ret d mc ms) {idx ci k i : Nat} {fs : List Value} {x : Int32} (hf : FP own idx ci k .int false) (hd : decode cc pc = .ok (.putfield idx, 3)) (he : h[i]? = some (.inr (ci, fs))) (hv : Nat.blt k fs.length = true) (kk : PW X (pc + 3) L st (h.set i (.inr (ci, fs.set k (.int x)))) kc ks) : PW X pc L (.int x :: .ref i :: st) h kc ks := PW.putV hX hf hd (fun a => ⟨rfl, rfl⟩) he hv kk
theorem PW.putZ (hX : Fx X cc own ret d mc ms) {idx ci k i : Nat} {fs : List Value} {x : Int32} (hf : FP own idx ci k .boolean false) (hd : decode cc pc = .ok (.putfield idx, 3)) (hx : x = 0 ∨ x = 1) (he : h[i]? = some (.inr (ci, fs))) (hv : Nat.blt k fs.length = true) (kk : PW X (pc + 3) L st (h.set i (.inr (ci, fs.set k (.int x)))) kc ks) : PW X pc L (.int x :: .ref i :: st) h kc ks := PW.putV hX hf hd (fun a => by rcases hx with rfl | rfl <;> exact ⟨rfl, rfl⟩) he hv kk
theorem PW.putF (hX : Fx X cc own ret d mc ms) {idx ci k i : Nat} {ty : FieldType} {fs : List Value} {v : Value} (hf : FP own idx ci k ty true) (hin2 : (cxM X).name = "<init>") (hd : decode cc pc = .ok (.putfield idx, 3)) (hn : ∀ a, narrow ty (tV a v) = tV a v ∧ fits ty (tV a v) = true) (he : h[i]? = some (.inr (ci, fs))) (hv : Nat.blt k fs.length = true) (kk : PW X (pc + 3) L st (h.set i (.inr (ci, fs.set k v))) kc ks) : PW X pc L (v :: .ref i :: st) h kc ks := by
  obtain ⟨C, T, N, ty0, hc, hk, hin, hl, hty, hnm, e1, e2, e3⟩ := hf
  intro a H locs ls S
  refine va_putF (D := cxD X) (ty := ty) hX.x hX.b hX.ts hin ty0 hty hnm hX.ow hX.K.1 S.1 S.2.1 S.2.2.1 i (tW_at he) hc k hk (hX.ts _ hl) (fun _ h => h) e2 hin2 (e3 rfl) (by rw [hty k hk, e1]) (hn a).1 (hn a).2 (by rw [List.length_map]; exact Nat.blt_eq.mp hv) hd (fun H1 locs1 h1 h2 h3 => ?_)
  rw [tC_put (ca := cxk X)] at h1 h2
  exact kk a H1 locs1 ls (S.put h1 h2 h3)
/-! arrays -/
theorem PW.iaload (hX : Fx X cc own ret d mc ms) {i n k : Nat} {f : Nat → Int32} {j : Int32} (hd : decode cc pc = .ok (.iaload, 1)) (he : h[i]? = some (.inl (0, n, f))) (hn : Nat.blt n 2147483648 = true) (hj : j = nI k) (hk : k < n) (kk : PW X (pc + 1) L (.int (f k) :: st) h kc ks) : PW X pc L (.int j :: .ref i :: st) h kc ks := by
  subst hj
  intro a H locs ls S
  have hn := Nat.blt_eq.mp hn
  have := kk a H locs ls S
  refine va_iald (D := cxD X) hX.x hX.b hX.K.1 S.1 i 0 (tW_at he) rfl (vp_in_nI hk hn) hd ?_
  rw [nI_clamp (by omega)]
  exact this
theorem PW.caload (hX : Fx X cc own ret d mc ms) {i n k : Nat} {f : Nat → Int32} {j : Int32} (hd : decode cc pc = .ok (.caload, 1)) (he : h[i]? = some (.inl (1, n, f))) (hn : Nat.blt n 2147483648 = true) (hj : j = nI k) (hk : k < n) (kk : PW X (pc + 1) L (.int (f k) :: st) h kc ks) : PW X pc L (.int j :: .ref i :: st) h kc ks := by
  subst hj
  intro a H locs ls S
  have hn := Nat.blt_eq.mp hn
  have := kk a H locs ls S
  refine va_cald (D := cxD X) hX.x hX.b hX.K.1 S.1 i 1 (tW_at he) rfl (vp_in_nI hk hn) hd ?_
  rw [nI_clamp (by omega)]
  exact this
theorem PW.baload (hX : Fx X cc own ret d mc ms) {i n k : Nat} {f : Nat → Int32} {j : Int32} (hd : decode cc pc = .ok (.baload, 1)) (he : h[i]? = some (.inl (2, n, f))) (hn : Nat.blt n 2147483648 = true) (hj : j = nI k) (hk : k < n) (kk : PW X (pc + 1) L (.int (f k) :: st) h kc ks) : PW X pc L (.int j :: .ref i :: st) h kc ks := by
  subst hj
  intro a H locs ls S
  have hn := Nat.blt_eq.mp hn
  have := kk a H locs ls S
  refine va_zald (D := cxD X) hX.x hX.b hX.K.1 S.1 i 2 (tW_at he) rfl (vp_in_nI hk hn) hd ?_
  rw [nI_clamp (by omega)]
  exact this
theorem PW.iastore (hX : Fx X cc own ret d mc ms) {i n k : Nat} {f : Nat → Int32} {j x : Int32} (hd : decode cc pc = .ok (.iastore, 1)) (he : h[i]? = some (.inl (0, n, f))) (hn : Nat.blt n 2147483648 = true) (hj : j = nI k) (hk : k < n) (kk : PW X (pc + 1) L st (h.set i (.inl (0, n, upd f k x))) kc ks) : PW X pc L (.int x :: .int j :: .ref i :: st) h kc ks := by
  subst hj
  intro a H locs ls S
  have hn := Nat.blt_eq.mp hn
  refine va_iast (D := cxD X) hX.x hX.b hX.K.1 S.1 S.2.1 S.2.2.1 i 0 (tW_at he) rfl (vp_in_nI hk hn) hd (fun H1 locs1 h1 h2 h3 => ?_)
  rw [nI_clamp (by omega)] at h1 h2
  exact kk a H1 locs1 ls (S.put (c := .inl (0, n, upd f k x)) h1 h2 h3)
theorem PW.castore (hX : Fx X cc own ret d mc ms) {i n k : Nat} {f : Nat → Int32} {j x : Int32} (hd : decode cc pc = .ok (.castore, 1)) (he : h[i]? = some (.inl (1, n, f))) (hn : Nat.blt n 2147483648 = true) (hj : j = nI k) (hk : k < n) (kk : PW X (pc + 1) L st (h.set i (.inl (1, n, upd f k (vp_nar .char x)))) kc ks) : PW X pc L (.int x :: .int j :: .ref i :: st) h kc ks := by
  subst hj
  intro a H locs ls S
  have hn := Nat.blt_eq.mp hn
  refine va_cast (D := cxD X) hX.x hX.b hX.K.1 S.1 S.2.1 S.2.2.1 i 1 (tW_at he) rfl (vp_in_nI hk hn) hd (fun H1 locs1 h1 h2 h3 => ?_)
  rw [nI_clamp (by omega)] at h1 h2
  exact kk a H1 locs1 ls (S.put (c := .inl (1, n, upd f k (vp_nar .char x))) h1 h2 h3)
theorem PW.bastore (hX : Fx X cc own ret d mc ms) {i n k : Nat} {f : Nat → Int32} {j x : Int32} (hd : decode cc pc = .ok (.bastore, 1)) (he : h[i]? = some (.inl (2, n, f))) (hn : Nat.blt n 2147483648 = true) (hj : j = nI k) (hk : k < n) (kk : PW X (pc + 1) L st (h.set i (.inl (2, n, upd f k (vp_nar .boolean x)))) kc ks) : PW X pc L (.int x :: .int j :: .ref i :: st) h kc ks := by
  subst hj
  intro a H locs ls S
  have hn := Nat.blt_eq.mp hn
  refine va_zast (D := cxD X) hX.x hX.b hX.K.1 S.1 S.2.1 S.2.2.1 i 2 (tW_at he) rfl (vp_in_nI hk hn) hd (fun H1 locs1 h1 h2 h3 => ?_)
  rw [nI_clamp (by omega)] at h1 h2
  exact kk a H1 locs1 ls (S.put (c := .inl (2, n, upd f k (vp_nar .boolean x))) h1 h2 h3)
theorem PW.alen (hX : Fx X cc own ret d mc ms) {i t n : Nat} {f : Nat → Int32} (hd : decode cc pc = .ok (.arraylength, 1)) (he : h[i]? = some (.inl (t, n, f))) (ht : Nat.blt t 3 = true) (kk : PW X (pc + 1) L (.int (nI n) :: st) h kc ks) : PW X pc L (.ref i :: st) h kc ks := by
  intro a H locs ls S
  have ht := Nat.blt_eq.mp ht
  have e : ∃ ty, (tys3 (cxk X))[t]? = some (cxk X t, ty) := by
    rcases (show t = 0 ∨ t = 1 ∨ t = 2 by omega) with rfl | rfl | rfl <;> exact ⟨_, rfl⟩
  obtain ⟨ty, e⟩ := e
  exact va_alen (D := cxD X) hX.x hX.b hX.K.1 S.1 i t (tW_at he) e rfl hd (kk a H locs ls S)
end Rules
theorem awp {i : Nat} {w : Cond} (h : (k2_sels lw_privs)[i]? = some w) (hg : goodWord w = true) : w ∈ AW := List.mem_filter.mpr ⟨List.mem_append_left _ (List.mem_of_getElem? h), hg⟩
theorem aw_t {w : Cond} (h : w ∈ tables_1) (hg : goodWord w = true) : w ∈ AW := List.mem_filter.mpr ⟨List.mem_append_right _ h, hg⟩
theorem aw1 {i : Nat} {w : Cond} (h : tables_1_1[i]? = some w) (hg : goodWord w = true) : w ∈ AW := aw_t (List.mem_append_left _ (List.mem_of_getElem? h)) hg
theorem aw2 {i : Nat} {w : Cond} (h : tables_1_2[i]? = some w) (hg : goodWord w = true) : w ∈ AW := aw_t (List.mem_append_right _ (List.mem_append_left _ (List.mem_of_getElem? h))) hg
theorem aw3 {i : Nat} {w : Cond} (h : tables_1_3[i]? = some w) (hg : goodWord w = true) : w ∈ AW := aw_t (List.mem_append_right _ (List.mem_append_right _ (List.mem_append_left _ (List.mem_of_getElem? h)))) hg
theorem aw4 {i : Nat} {w : Cond} (h : tables_1_4[i]? = some w) (hg : goodWord w = true) : w ∈ AW := aw_t (List.mem_append_right _ (List.mem_append_right _ (List.mem_append_right _ (List.mem_append_left _ (List.mem_of_getElem? h))))) hg
theorem aw5 {i : Nat} {w : Cond} (h : tables_1_5[i]? = some w) (hg : goodWord w = true) : w ∈ AW := aw_t (List.mem_append_right _ (List.mem_append_right _ (List.mem_append_right _ (List.mem_append_right _ (List.mem_of_getElem? h))))) hg
theorem AW_in : ∀ w ∈ AW, w ∈ lw_tbl := fun w h => (List.mem_filter.mp h).1
theorem AW_good : ∀ w ∈ AW, (w.onTables && w.keeps) = true ∨ ∃ ty, w = .arrayClass ty := fun w h => good_of_word (List.mem_filter.mp h).2
/-! methods -/
abbrev MI : Type := MethodName × ByteArray × Nat × Option FieldType
def MB (μ : MI) (n : Nat) : Prop := μ.1.cls ≠ "java/lang/invoke/MethodHandle" ∧ μ.1.cls ≠ "java/lang/invoke/VarHandle" ∧ (parseMethodDescriptor μ.1.desc).map (fun d => d.parameters.length) = some n
def MSV (own : String) (idx : Nat) (μ : MI) (n : Nat) : Prop := Cond.methodLink own idx μ.1 ∈ AW ∧ Cond.initialized μ.1.cls ∈ AW ∧ Cond.code μ.1 μ.2.1 μ.2.2.1 μ.2.2.2 ∈ AW ∧ MB μ n ∧ μ.2.2.1 ≤ 13 ∧ Cond.instanceMethod μ.1 ∈ AW ∧ Cond.selects μ.1.cls μ.1 μ.1 ∈ AW
def MSS (own : String) (idx : Nat) (μ : MI) (n : Nat) : Prop := Cond.methodLink own idx μ.1 ∈ AW ∧ Cond.initialized μ.1.cls ∈ AW ∧ Cond.code μ.1 μ.2.1 μ.2.2.1 μ.2.2.2 ∈ AW ∧ MB μ n ∧ μ.2.2.1 ≤ 13 ∧ Cond.static μ.1 ∈ AW
def MNS (own : String) (idx : Nat) (μ : MI) (n : Nat) : Prop := Cond.methodLinkNest own idx μ.1 RX6 ∈ nestW ∧ Cond.initialized μ.1.cls ∈ AW ∧ Cond.code μ.1 μ.2.1 μ.2.2.1 μ.2.2.2 ∈ AW ∧ MB μ n ∧ μ.2.2.1 ≤ 13 ∧ Cond.static μ.1 ∈ AW
def MSI (own : String) (idx : Nat) (μ : MI) (n : Nat) : Prop := Cond.methodLink own idx μ.1 ∈ AW ∧ Cond.initialized μ.1.cls ∈ AW ∧ Cond.code μ.1 μ.2.1 μ.2.2.1 μ.2.2.2 ∈ AW ∧ MB μ n ∧ μ.2.2.1 ≤ 13 ∧ μ.1.name = "<init>" ∧ Cond.instanceMethod μ.1 ∈ AW
def MNI (own : String) (idx : Nat) (μ : MI) (n : Nat) : Prop := Cond.methodLinkNest own idx μ.1 RX6 ∈ nestW ∧ Cond.initialized μ.1.cls ∈ AW ∧ Cond.code μ.1 μ.2.1 μ.2.2.1 μ.2.2.2 ∈ AW ∧ MB μ n ∧ μ.2.2.1 ≤ 13 ∧ μ.1.name = "<init>" ∧ Cond.instanceMethod μ.1 ∈ AW
def rmd (d mc ms : Nat) : Room := { frames := d, cells := mc, slots := ms, locals := 32 * d }
def pmP (D : va_G) (ca : Nat → ClassId) (a : Nat → Nat) (sz : Nat) (as : List Value) (h : List PCell) : Array Value → State → Prop :=
  va_Pc (as.map (tV a)) (fun U => U.heap.size = sz ∧ va_P D vwCl (tW ca a h) U.heap ∧ KK D ca a (va_A (tW ca a h) sz) U U.heap ∧ va_D (fun _ => True) (tW ca a h))
def pmQ (D : va_G) (ca : Nat → ClassId) (a0 : Nat → Nat) (sz : Nat) (h : List PCell) (Φ : Option Value → List PCell → Prop) : Array Value → State → Outcome → State → Prop := fun _ st oc t =>
  (∃ (r : Option Value) (h' : List PCell) (a : Nat → Nat), oc = .returned (r.map (tV a)) ∧ Φ r h' ∧ (∀ i, i < h.length ∨ 1000 ≤ i → a i = a0 i) ∧ va_P D vwCl (tW ca a h') t.heap ∧ va_D (va_A (tW ca a0 h) sz) (tW ca a h')) ∧ va_F (va_A (tW ca a0 h) sz) st t
def PM (μ : MI) (d mc ms : Nat) (as : List Value) (h : List PCell) (Φ : Option Value → List PCell → Prop) : Prop :=
  ∀ (l : Launch) (D : va_G) (ca : Nat → ClassId) (a : Nat → Nat) (sz : Nat), Met l μ.1 (Cond.code μ.1 μ.2.1 μ.2.2.1 μ.2.2.2 :: AW) (rmd d mc ms) (pmP D ca a sz as h) (pmQ D ca a sz h Φ) mc ms (va_A (tW ca a h) sz)
/-- at a return -/
def RT (X : Cx) (Φ : Option Value → List PCell → Prop) (mc ms : Nat) : Prop := ∃ h0 : List PCell, cxQ X = MQ (cxb X) (pmQ (cxD X) (cxk X) (cxa X) (cxs X).heap.size h0 Φ) (cxg X) (cxs X) mc ms (cxA X) ∧ cxA X = va_A (tW (cxk X) (cxa X) h0) (cxs X).heap.size ∧ cxn X = h0.length
theorem lvA_mem : ∀ (vs : List Value) (k : Nat), (∀ v ∈ vs, v.category = 1) → ∀ (i : Nat) (v : Value), vs[i]? = some v → (k + i, v) ∈ lv_args k vs
  | [], k, _, i, v, h => by simp at h
  | w :: vs, k, hc, i, v, h => by
    have hw : ¬ w.category = 2 := by rw [hc w List.mem_cons_self]; decide
    rw [lv_args, if_neg hw]
    cases i with
    | zero =>
      simp only [List.getElem?_cons_zero, Option.some.injEq] at h
      subst h
      exact List.mem_cons_self
    | succ i =>
      rw [List.getElem?_cons_succ] at h
      have := lvA_mem vs (k + 1) (fun v hv => hc v (List.mem_cons_of_mem _ hv)) i v h
      rw [show k + (i + 1) = k + 1 + i by omega]
      exact List.mem_cons_of_mem _ this
theorem lgS_len : ∀ (vs : List Value), (∀ v ∈ vs, v.category = 1) → (lg_sl vs).length = vs.length
  | [], _ => rfl
  | w :: vs, hc => by
    have hw : ¬ w.category = 2 := by rw [hc w List.mem_cons_self]; decide
    have ih := lgS_len vs (fun v hv => hc v (List.mem_cons_of_mem _ hv))
    simp only [lg_sl, List.flatMap_cons, if_neg hw] at ih ⊢
    simp only [List.length_append, List.length_cons, List.length_nil, ih]
    omega
/-- a method from its entry -/
theorem PM.start {μ : MI} {d mc ms : Nat} {as : List Value} {h : List PCell} {Φ : Option Value → List PCell → Prop} {L : List (Option Value)} (hy : plainName μ.1.cls = true ∨ plainFor μ.1 = true) (hc : as.all (fun v => v.category == 1) = true) (hn : Nat.ble as.length μ.2.2.1 = true) (hL : L = as.map some ++ List.replicate (μ.2.2.1 - as.length) none)
    (body : ∀ X : Cx, Fx X μ.2.1 μ.1.cls μ.2.2.2 d mc ms → RT X Φ mc ms → cxn X = h.length → (cxM X).name = μ.1.name → PW X 0 L [] h 0 0) : PM μ d mc ms as h Φ := by
  intro l D ca a sz
  have hmet : (∀ p e s m args below meth c s₁, BodyLoose p l μ.1 (headSpec (Cond.code μ.1 μ.2.1 μ.2.2.1 μ.2.2.2 :: AW) (rmd d mc ms)) μ.2.1 μ.2.2.1 μ.2.2.2 e s m args below meth c s₁ → c.maxLocals = μ.2.2.1 → pmP D ca a sz as h args s →
      W p l e (headSpec (Cond.code μ.1 μ.2.1 μ.2.2.1 μ.2.2.2 :: AW) (rmd d mc ms)).room s m args below meth c s.heap [] 0 0 (MQ below (pmQ D ca a sz h Φ) args s mc ms (va_A (tW ca a h) sz)) (entryFrame m args μ.2.2.1)) → Met l μ.1 (Cond.code μ.1 μ.2.1 μ.2.2.1 μ.2.2.2 :: AW) (rmd d mc ms) (pmP D ca a sz as h) (pmQ D ca a sz h Φ) mc ms (va_A (tW ca a h) sz) := by
    rcases hy with hy | hy
    · exact Met.ofW hy rfl
    · exact va_MetF hy rfl
  refine hmet ?_
  intro p e s m args below meth c s₁ B hml hv
  obtain ⟨rfl, hsz, hP, hK, hD0⟩ := hv
  subst hsz
  have hts := atoms_spec (ws := Cond.code μ.1 μ.2.1 μ.2.2.1 μ.2.2.2 :: AW) B.pre
  have hcat : ∀ v ∈ as.map (tV a), v.category = 1 := by
    intro v hv
    obtain ⟨w, hw, rfl⟩ := List.mem_map.mp hv
    rw [tV_cat]
    simpa using List.all_eq_true.mp hc w hw
  have hle : (lg_sl (as.map (tV a))).length ≤ μ.2.2.1 := by
    rw [lgS_len _ hcat, List.length_map]; exact Nat.ble_eq.mp hn
  have hl := lv_entry (as.map (tV a)) (n := μ.2.2.1) hle
  rw [lg_entry_eq]
  generalize (lg_sl (as.map (tV a)) ++ List.replicate (μ.2.2.1 - (lg_sl (as.map (tV a))).length) Slot.unset).toArray = ls at hl ⊢
  refine body ((p, l, e, rmd d mc ms), (s, m, (as.map (tV a)).toArray, below), (meth, c), (D, ca, va_A (tW ca a h) s.heap.size, MQ below (pmQ D ca a s.heap.size h Φ) (as.map (tV a)).toArray s mc ms (va_A (tW ca a h) s.heap.size)), (a, h.length, μ.2.2.1)) ⟨B.exec, B.bytes, hml, findClass_of_methodNamed B.named, fun w hw => hts w (List.mem_cons_of_mem _ hw), B.returns, B.notSynchronized, hK, fun q hq => Or.inr hq, Nat.le_refl _, Nat.le_refl _, Nat.le_refl _, Nat.le_refl _⟩ ⟨h, rfl, rfl, rfl⟩ rfl (name_of_methodNamed B.named B.method).1 a s.heap [] ls ⟨hP, hD0.self, va_S.rf, fun _ _ => rfl, hl.1, ?_, hl.2.1, ?_⟩
  · have := Nat.ble_eq.mp hn
    rw [hL]
    simp only [List.length_append, List.length_map, List.length_replicate]
    show as.length + (μ.2.2.1 - as.length) = μ.2.2.1
    omega
  · intro i v hi
    rw [hL, List.getElem?_append] at hi
    split at hi
    · simp only [List.getElem?_map, Option.map_eq_some_iff] at hi
      obtain ⟨w, hw, e⟩ := hi
      cases e
      refine ⟨by simpa using List.all_eq_true.mp hc v (List.mem_of_getElem? hw), ?_⟩
      have := lvA_mem (as.map (tV a)) 0 hcat i (tV a v) (by simp [hw])
      rw [Nat.zero_add] at this
      exact hl.2.2 _ this
    · simp only [List.getElem?_replicate] at hi
      split at hi
      · cases hi
      · cases hi
section Ret
variable {X : Cx} {cc : ByteArray} {own : String} {ret : Option FieldType} {d mc ms mx sx : Nat} {pc : Nat} {L : List (Option Value)} {st : List Value} {h : List PCell} {kc ks : Nat} {Φ : Option Value → List PCell → Prop}
theorem RT.q (hR : RT X Φ mc ms) {r : Option Value} (hΦ : Φ r h) {a : Nat → Nat} {H : Heap} {locs : List Loc} {ls : Array Slot} (S : Sm X a H locs ls L h) : ∃ h0 : List PCell, cxQ X = MQ (cxb X) (pmQ (cxD X) (cxk X) (cxa X) (cxs X).heap.size h0 Φ) (cxg X) (cxs X) mc ms (cxA X) ∧ ∀ t : State, t.heap = H → pmQ (cxD X) (cxk X) (cxa X) (cxs X).heap.size h0 Φ (cxg X) (cxs X) (.returned (r.map (tV a))) t := by
  obtain ⟨h0, e1, e2, e3⟩ := hR
  obtain ⟨hP, hD, hS, hx, hl⟩ := S
  refine ⟨h0, e1, fun t ht => ⟨⟨r, h, a, rfl, hΦ, fun i hi => hx i (by rw [e3]; exact hi), by rw [ht]; exact hP, by rw [← e2]; exact hD⟩, by rw [← e2]; exact hS.F ht⟩⟩
theorem PW.iret (hX : Fx X cc own (some .int) d mx sx) (hR : RT X Φ mc ms) {v : Int32} (hd : decode cc pc = .ok (.ireturn, 1)) (h1 : Nat.ble kc mc = true) (h2 : Nat.ble ks ms = true) (hΦ : Φ (some (.int v)) h) : PW X pc L [.int v] h kc ks := by
  intro a H locs ls S
  obtain ⟨h0, e1, hq⟩ := hR.q hΦ S
  unfold WW
  rw [e1]
  exact W.widen (Nat.ble_eq.mp h1) (Nat.ble_eq.mp h2) (W.iret hX.x hX.b hX.rt (fun t ht _ => hq t ht) S.2.2.1.2.2 hd hX.lk)
theorem PW.zret (hX : Fx X cc own (some .boolean) d mx sx) (hR : RT X Φ mc ms) {v : Int32} (hd : decode cc pc = .ok (.ireturn, 1)) (hv : v = 0 ∨ v = 1) (h1 : Nat.ble kc mc = true) (h2 : Nat.ble ks ms = true) (hΦ : Φ (some (.int v)) h) : PW X pc L [.int v] h kc ks := by
  intro a H locs ls S
  obtain ⟨h0, e1, hq⟩ := hR.q hΦ S
  unfold WW
  rw [e1]
  exact W.widen (Nat.ble_eq.mp h1) (Nat.ble_eq.mp h2) (W.zret hX.x hX.b hX.rt (by rcases hv with rfl | rfl <;> rfl) (fun t ht _ => hq t ht) S.2.2.1.2.2 hd hX.lk)
theorem PW.bret (hX : Fx X cc own (some .byte) d mx sx) (hR : RT X Φ mc ms) {v : Int32} (hd : decode cc pc = .ok (.ireturn, 1)) (hv : v = 0 ∨ v = 1) (h1 : Nat.ble kc mc = true) (h2 : Nat.ble ks ms = true) (hΦ : Φ (some (.int v)) h) : PW X pc L [.int v] h kc ks := by
  intro a H locs ls S
  obtain ⟨h0, e1, hq⟩ := hR.q hΦ S
  unfold WW
  rw [e1]
  exact W.widen (Nat.ble_eq.mp h1) (Nat.ble_eq.mp h2) (W.zret hX.x hX.b hX.rt (by rcases hv with rfl | rfl <;> rfl) (fun t ht _ => hq t ht) S.2.2.1.2.2 hd hX.lk)
theorem PW.vret (hX : Fx X cc own none d mx sx) (hR : RT X Φ mc ms) (hd : decode cc pc = .ok (.return_, 1)) (h1 : Nat.ble kc mc = true) (h2 : Nat.ble ks ms = true) (hΦ : Φ none h) : PW X pc L [] h kc ks := by
  intro a H locs ls S
  obtain ⟨h0, e1, hq⟩ := hR.q hΦ S
  unfold WW
  rw [e1]
  exact W.widen (Nat.ble_eq.mp h1) (Nat.ble_eq.mp h2) (W.vret hX.x hX.b hX.rt (fun t ht _ => hq t ht) S.2.2.1.2.2 hd hX.lk)
end Ret
