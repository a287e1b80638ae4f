/-! cells that are made -/
def CN (own : String) (idx ci : Nat) : Prop := ∃ (C : String) (T : u_T) (N : Nat) (ty : Nat → FieldType), vwCl[ci]? = some (C, T, N) ∧ (∀ w ∈ u_ws C T N, w ∈ AW) ∧ (∀ k, k < N → parseFieldDescriptor (T k).2.2.1 = some (ty k)) ∧ Cond.classLink own idx C ∈ AW ∧ Cond.instantiable C N ∈ AW ∧ Cond.initialized C ∈ AW
def okS (n : Nat) (L : List (Option Value)) (st : List Value) (h : List PCell) : Bool := okH n h && (L.all (fun o => o.all (okV n)) && st.all (okV n))
def exA (a : Nat → Nat) (n q : Nat) : Nat → Nat := fun i => if i = n then q else a i
section New
variable {X : Cx} {cc : ByteArray} {own : String} {ret : Option FieldType} {d mc ms : Nat} {pc : Nat} {L : List (Option Value)} {st : List Value} {h : List PCell} {kc ks : Nat}
theorem exA_ag {a : Nat → Nat} {n q : Nat} (hn : n < 1000) : ∀ i, i < n ∨ 1000 ≤ i → a i = exA a n q i := by
  intro i hi
  unfold exA
  rw [if_neg (by omega)]
theorem exA_self {a : Nat → Nat} {n q : Nat} : exA a n q n = q := by simp [exA]
theorem tW_app (ca : Nat → ClassId) (a : Nat → Nat) (h : List PCell) (c : PCell) : tW ca a (h ++ [c]) = tW ca a h ++ [(a h.length, tC ca a c)] := by
  simp [tW, List.mapIdx_append]
theorem Sm.push {a : Nat → Nat} {H H1 : Heap} {locs : List Loc} {ls : Array Slot} {c : PCell} {q : Nat} (S : Sm X a H locs ls L h) (hn : h.length < 1000) (hx : cxn X ≤ h.length) (hok : okH h.length h = true) (hokL : L.all (fun o => o.all (okV h.length)) = true) (hokc : okC h.length c = true)
    (h1 : va_P (cxD X) vwCl (tW (cxk X) a h ++ [(q, tC (cxk X) a c)]) H1) (h2 : va_D (cxA X) (tW (cxk X) a h ++ [(q, tC (cxk X) a c)])) (h3 : va_S (cxA X) (cxs X).heap H1 locs) : Sm X (exA a h.length q) H1 locs ls L (h ++ [c]) := by
  have ag := exA_ag (a := a) (q := q) hn
  have e : tW (cxk X) a h ++ [(q, tC (cxk X) a c)] = tW (cxk X) (exA a h.length q) (h ++ [c]) := by
    rw [tW_app, exA_self, tW_congr ag (Nat.le_refl _) hok, tC_congr ag hokc]
  rw [e] at h1 h2
  exact ⟨h1, h2, h3, fun i hi => by rw [← ag i (by omega)]; exact S.2.2.2.1 i hi, lvS_congr ag hokL S.2.2.2.2⟩
theorem st_congr {a b : Nat → Nat} {n : Nat} (hab : ∀ i, i < n ∨ 1000 ≤ i → a i = b i) {st : List Value} (hs : st.all (okV n) = true) : st.map (tV a) = st.map (tV b) := List.map_congr_left fun v hv => tV_congr hab (List.all_eq_true.mp hs v hv)
theorem PW.new (hX : Fx X cc own ret d mc ms) {idx ci N : Nat} {C : String} {T : u_T} (fs : List Value) (hf : CN own idx ci) (hc : vwCl[ci]? = some (C, T, N)) (hd : decode cc pc = .ok (.new idx, 3)) (hfs : ∀ ty : Nat → FieldType, (∀ k, k < N → parseFieldDescriptor (T k).2.2.1 = some (ty k)) → ∀ j, j < N → defaultValue (ty j) = vp_V fs j) (hz : fs.all (fun v => match v with | .ref _ => false | _ => true) = true) (hx : cxn X ≤ h.length) (hn : Nat.blt h.length 1000 = true) (hok : okS h.length L st h = true) (h1 : Nat.ble (kc + 1) mc = true) (h2 : Nat.ble (ks + N) ms = true)
    (kk : PW X (pc + 3) L (.ref h.length :: st) (h ++ [.inr (ci, fs)]) (kc + 1) (ks + N)) : PW X pc L st h kc ks := by
  obtain ⟨C', T', N', ty, hc', hin, hty, hl, hi, hini⟩ := hf
  rw [hc] at hc'
  cases hc'
  simp only [okS, Bool.and_eq_true] at hok
  obtain ⟨o1, o2, o3⟩ := hok
  have hn := Nat.blt_eq.mp hn
  have hval : ∀ (a : Nat → Nat), fs.map (tV a) = fs := by
    intro a
    have : ∀ v ∈ fs, tV a v = v := by
      intro v hv
      have := List.all_eq_true.mp hz v hv
      cases v <;> first | rfl | (simp at this; done)
    exact (List.map_congr_left this).trans (List.map_id _)
  have hok2 : okC h.length (.inr (ci, fs)) = true := by
    simp only [okC, List.all_eq_true]
    intro v hv
    have := List.all_eq_true.mp hz v hv
    cases v <;> first | rfl | (simp at this; done)
  intro a H locs ls S
  obtain ⟨r1, r2, r3, r4⟩ := hX.r
  have b1 := Nat.ble_eq.mp h1
  have b2 := Nat.ble_eq.mp h2
  refine va_new (ci := ci) (fs := fs) (C := C) (T := T) (N := N) (D := cxD X) hX.x hX.b hX.ts hin ty hty hX.ow (hX.ts _ hl) (hX.ts _ hi) (hX.ts _ hini) hX.K.1 S.1 S.2.1 S.2.2.1 hX.A hc (hfs ty hty) (by omega) (by omega) hd (fun q H1 g1 g2 g3 => ?_)
  have e : ((Sum.inr (ci, fs)) : va_E) = tC (cxk X) a (.inr (ci, fs)) := by simp [tC, hval]
  rw [e] at g1 g2
  have := kk (exA a h.length q) H1 locs ls (S.push hn hx o1 o2 hok2 g1 g2 g3)
  rw [List.map_cons, ← st_congr (exA_ag (a := a) (q := q) hn) o3] at this
  show WW X H1 locs (kc + 1) (ks + N) (pc + 3) ls (.ref q :: st.map (tV a))
  have e2 : tV (exA a h.length q) (.ref h.length) = .ref q := by show Value.ref (exA a h.length q h.length) = _; rw [exA_self]
  rw [e2] at this
  exact this
/-- the array class of a type is one -/
theorem RA_one {U : State} {c1 c2 : ClassId} {t : Nat} {ca : Nat → ClassId} {ty : FieldType} (ht : (tys3 ca)[t]? = some (c1, ty)) (h1 : va_RA U c1 ty) (h2 : va_RA U c2 ty) : c2 = c1 := by
  match t, ht with
  | 0, ht => cases ht; exact Option.some.inj (h2.symm.trans h1)
  | 1, ht => cases ht; exact Option.some.inj (h2.symm.trans h1)
  | 2, ht => cases ht; exact Option.some.inj (h2.symm.trans h1)
  | t + 3, ht => simp [tys3] at ht
theorem PW.newarr (hX : Fx X cc own ret d mc ms) {t N : Nat} {ty : FieldType} {atype : ArrayType} {x : Int32} (hac : Cond.arrayClass ty ∈ AW) (hat : newarray.typeOf atype = ty) (ht : ∀ ca, (tys3 ca)[t]? = some (ca t, ty)) (hdv : defaultValue ty = .int 0) (hbt : N * componentBytes ty ≤ 536870912) (hd : decode cc pc = .ok (.newarray atype, 2)) (hN : x = nI N) (hx : cxn X ≤ h.length) (hn : Nat.blt h.length 1000 = true) (hNs : Nat.blt N 2147483648 = true) (hok : okS h.length L st h = true) (h1 : Nat.ble (kc + 1) mc = true) (h2 : Nat.ble (ks + N) ms = true)
    (kk : PW X (pc + 2) L (.ref h.length :: st) (h ++ [.inl (t, N, fun _ => 0)]) (kc + 1) (ks + N)) : PW X pc L (.int x :: st) h kc ks := by
  simp only [okS, Bool.and_eq_true] at hok
  obtain ⟨o1, o2, o3⟩ := hok
  have hn := Nat.blt_eq.mp hn
  have hNs := Nat.blt_eq.mp hNs
  subst hN
  intro a H locs ls S
  obtain ⟨r1, r2, r3, r4⟩ := hX.r
  have b1 := Nat.ble_eq.mp h1
  have b2 := Nat.ble_eq.mp h2
  refine va_newa (atype := atype) (ty := ty) (a0 := (N, .inl (fun _ => 0))) (N' := N) (D := cxD X) hX.x hX.b (by rw [hat]; exact hX.ts _ hac) hat hX.K.1 S.1 S.2.1 S.2.2.1 hX.A (fun cA => by rw [hdv]; rfl) (nI_pos (by omega)) (nI_clamp (by omega)) hbt (by omega) (by omega) hd (fun q cA H1 hK1 g1 g2 g3 => ?_)
  have hl : (tys3 (cxk X) ++ [(cA, ty)])[3]? = some (cA, ty) := rfl
  have ecA : cA = cxk X t := RA_one (ht (cxk X)) (hX.K.1.2 t _ (ht (cxk X))).2 (hK1.2 3 _ hl).2
  subst ecA
  have := kk (exA a h.length q) H1 locs ls (S.push (c := .inl (t, N, fun _ => 0)) hn hx o1 o2 rfl g1 g2 g3)
  rw [List.map_cons, ← st_congr (exA_ag (a := a) (q := q) hn) o3] at this
  show WW X H1 locs (kc + 1) (ks + N) (pc + 2) ls (.ref q :: st.map (tV a))
  have e2 : tV (exA a h.length q) (.ref h.length) = .ref q := by show Value.ref (exA a h.length q h.length) = _; rw [exA_self]
  rw [e2] at this
  exact this
theorem PW.objInit (hX : Fx X cc own ret d mc ms) {idx i : Nat} (hl : Cond.methodLink own idx objectInit ∈ AW) (hi : Cond.instanceMethod objectInit ∈ AW) (hc : Cond.code objectInit ⟨#[0xb1]⟩ 1 none ∈ AW) (hd : decode cc pc = .ok (.invokespecial idx, 3)) (hdd : Nat.ble 1 d = true) (hr : Nat.ble ((st.map fun v => v.category).sum) 8 = true) (kk : PW X (pc + 3) L st h kc ks) : PW X pc L (.ref i :: st) h kc ks := by
  intro a H locs ls S
  obtain ⟨r1, r2, r3, r4⟩ := hX.r
  have hdd := Nat.ble_eq.mp hdd
  refine W.objInit hX.x hX.b hX.ow (hX.ts _ hl) (hX.ts _ hi) (hX.ts _ hc) rfl (by rw [hX.ml]; exact S.2.2.2.2.1) rfl hd (by omega) ?_ (kk a H locs ls S)
  have := cat_rest (a := a) hr (m := cxm X) (pc := pc) (ls := ls) (st := (Value.ref i :: st).map (tV a))
  omega
/-- System.arraycopy of ints -/
theorem PW.acopy (hX : Fx X cc own ret d mc ms) {idx i j n0 n1 sp dp n : Nat} {f g : Nat → Int32} {xs xd xn : Int32} (hl : Cond.methodLink own idx arraycopyName ∈ AW) (hnat : Cond.native arraycopyName ∈ AW) (hsta : Cond.static arraycopyName ∈ AW) (hini : Cond.initialized "java/lang/System" ∈ AW) (hd : decode cc pc = .ok (.invokestatic idx, 3)) (hdd : Nat.ble 1 d = true) (hst : st = [])
    (hi : h[i]? = some (.inl (0, n0, f))) (hj : h[j]? = some (.inl (0, n1, g))) (e1 : xs = nI sp) (e2 : xd = nI dp) (e3 : xn = nI n) (l1 : sp + n ≤ n0) (l2 : dp + n ≤ n1) (b0 : Nat.blt n0 2147483648 = true) (b1 : Nat.blt n1 2147483648 = true)
    (kk : PW X (pc + 3) L st (h.set j (.inl (0, n1, va_cpy f g sp dp n))) kc ks) : PW X pc L (.int xn :: .int xd :: .ref j :: .int xs :: .ref i :: st) h kc ks := by
  have b0 := Nat.blt_eq.mp b0
  have b1 := Nat.blt_eq.mp b1
  subst e1; subst e2; subst e3; subst hst
  intro a H locs ls S
  obtain ⟨r1, r2, r3, r4⟩ := hX.r
  have hdd := Nat.ble_eq.mp hdd
  have c1 : (nI sp).toNatClampNeg = sp := nI_clamp (by omega)
  have c2 : (nI dp).toNatClampNeg = dp := nI_clamp (by omega)
  have c3 : (nI n).toNatClampNeg = n := nI_clamp (by omega)
  refine va_copyi (D := cxD X) (ty := .int) hX.x hX.b (hX.ml.trans S.2.2.2.2.1.symm) hX.ow (hX.ts _ hl) (hX.ts _ hnat) (hX.ts _ hsta) (hX.ts _ hini) hX.K.1 S.1 S.2.1 S.2.2.1 i j 0 0 (tW_at hi) (tW_at hj) rfl rfl rfl (nI_pos (by omega)) (nI_pos (by omega)) (nI_pos (by omega)) (by rw [c1, c3]; exact l1) (by rw [c2, c3]; exact l2) (fun _ _ => rfl) (by omega) ?_ hd (fun H1 locs1 g1 g2 g3 => ?_)
  · have e : nativeFrameWords "java/lang/System" "arraycopy" 5 + 11 ≤ 32 := by decide +kernel
    show 0 + _ ≤ _
    omega
  · rw [c1, c2, c3] at g1 g2
    exact kk a H1 locs1 ls (S.put (c := .inl (0, n1, va_cpy f g sp dp n)) g1 g2 g3)
/-- Math.max, Math.min of two ints -/
theorem PW.mmax (hX : Fx X cc own ret d mc ms) {idx n : Nat} {x y : Int32} (hm : MSS own idx (Lib.Math.max.name, Lib.Math.max.code, 2, some .int) n) (hd : decode cc pc = .ok (.invokestatic idx, 3)) (hdd : Nat.ble 1 d = true) (hr : Nat.ble ((st.map fun v => v.category).sum) 8 = true) (hcc : Nat.ble kc mc = true) (hss : Nat.ble ks ms = true) (kk : PW X (pc + 3) L (.int (if x < y then y else x) :: st) h kc ks) : PW X pc L (.int y :: .int x :: st) h kc ks := by
  intro a H locs ls S
  obtain ⟨r1, r2, r3, r4⟩ := hX.r
  obtain ⟨hlk, hin, hcd, hbb, hml, hsta⟩ := hm
  have hdd := Nat.ble_eq.mp hdd
  have hcc := Nat.ble_eq.mp hcc
  have hss := Nat.ble_eq.mp hss
  have h9 := cat_rest (a := a) hr (m := cxm X) (pc := pc) (ls := ls) (st := st.map (tV a))
  exact va_mmax hX.x hX.b (hX.ml.trans S.2.2.2.2.1.symm) hX.ow (hX.ts _ hlk) (hX.ts _ hsta) (hX.ts _ hin) (hX.ts _ hcd) (by omega) (by omega) (by omega) (by omega) hd (kk a H locs ls S)
theorem PW.mmin (hX : Fx X cc own ret d mc ms) {idx n : Nat} {x y : Int32} (hm : MSS own idx (Lib.Math.min.name, Lib.Math.min.code, 2, some .int) n) (hd : decode cc pc = .ok (.invokestatic idx, 3)) (hdd : Nat.ble 1 d = true) (hr : Nat.ble ((st.map fun v => v.category).sum) 8 = true) (hcc : Nat.ble kc mc = true) (hss : Nat.ble ks ms = true) (kk : PW X (pc + 3) L (.int (if y < x then y else x) :: st) h kc ks) : PW X pc L (.int y :: .int x :: st) h kc ks := by
  intro a H locs ls S
  obtain ⟨r1, r2, r3, r4⟩ := hX.r
  obtain ⟨hlk, hin, hcd, hbb, hml, hsta⟩ := hm
  have hdd := Nat.ble_eq.mp hdd
  have hcc := Nat.ble_eq.mp hcc
  have hss := Nat.ble_eq.mp hss
  have h9 := cat_rest (a := a) hr (m := cxm X) (pc := pc) (ls := ls) (st := st.map (tV a))
  have k9 := kk a H locs ls S
  refine va_mmin hX.x hX.b (hX.ml.trans S.2.2.2.2.1.symm) hX.ow (hX.ts _ hlk) (hX.ts _ hsta) (hX.ts _ hin) (hX.ts _ hcd) (by omega) (by omega) (by omega) (by omega) hd ?_
  exact k9
end New
