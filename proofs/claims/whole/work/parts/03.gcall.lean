/-! calls: the callee's cells are some of ours, by their places ι; its refs are renamed -/
def rho (ι : List Nat) (n m i : Nat) : Nat := bif Nat.blt i n then ι.getD i 0 else bif Nat.ble 1000 i then i else i - n + m
theorem rho_in {ι : List Nat} {n m i j : Nat} (hi : i < n) (hj : ι[i]? = some j) : rho ι n m i = j := by
  have : Nat.blt i n = true := Nat.blt_eq.mpr hi
  simp [rho, this, List.getD_eq_getElem?_getD, hj]
theorem rho_hi {ι : List Nat} {n m i : Nat} (hn : n ≤ 1000) (hi : 1000 ≤ i) : rho ι n m i = i := by
  have h1 : Nat.blt i n = false := by rw [Bool.eq_false_iff]; intro h; have := Nat.blt_eq.mp h; omega
  have h2 : Nat.ble 1000 i = true := Nat.ble_eq.mpr hi
  unfold rho; rw [h1, h2]; rfl
theorem rho_new {ι : List Nat} {n m i : Nat} (hi : n ≤ i) (hk : i < 1000) : rho ι n m i = i - n + m := by
  have h1 : Nat.blt i n = false := by rw [Bool.eq_false_iff]; intro h; have := Nat.blt_eq.mp h; omega
  have h2 : Nat.ble 1000 i = false := by rw [Bool.eq_false_iff]; intro h; have := Nat.ble_eq.mp h; omega
  unfold rho; rw [h1, h2]; rfl
def isI : Option Value → Bool
  | none => true
  | some (.int _) => true
  | _ => false
section Calls
variable {X : Cx} {cc : ByteArray} {own : String} {ret : Option FieldType} {d mc ms : Nat} {pc : Nat} {L : List (Option Value)} {st rest : List Value} {h hc : List PCell} {kc ks : Nat} {μ : MI} {d' mc' ms' n : Nat} {as : List Value} {ι : List Nat} {Φ : Option Value → List PCell → Prop}
theorem pick_at {g : PCell → PCell} (e1 : ι.map (fun i => h[i]?) = hc.map (fun c => some (g c))) : ι.length = hc.length ∧ (∀ (k : Nat) (c : PCell), hc[k]? = some c → ∃ i, ι[k]? = some i ∧ h[i]? = some (g c)) := by
  refine ⟨by simpa using congrArg List.length e1, fun k c hk => ?_⟩
  have h1 : (ι.map (fun i => h[i]?))[k]? = some (some (g c)) := by rw [e1]; simp [hk]
  rw [List.getElem?_map] at h1
  cases hi : ι[k]? with
  | none => rw [hi] at h1; cases h1
  | some i => rw [hi] at h1; exact ⟨i, rfl, Option.some.inj h1⟩
/-- the callee's world out of ours -/
theorem sub_W {a : Nat → Nat} {ca : Nat → ClassId} (e1 : ι.map (fun i => h[i]?) = hc.map (fun c => some (rC (rho ι ι.length h.length) c))) {k : Nat} {q : Nat × va_E} (hk : (tW ca (fun i => a (rho ι ι.length h.length i)) hc)[k]? = some q) : ∃ i, ι[k]? = some i ∧ (tW ca a h)[i]? = some q := by
  obtain ⟨c, h1, rfl⟩ := tW_of hk
  obtain ⟨hl, hp⟩ := pick_at e1
  obtain ⟨i, h2, h3⟩ := hp k c h1
  refine ⟨i, h2, ?_⟩
  rw [tW_at h3, tC_rC, rho_in (by rw [hl]; exact (List.getElem?_eq_some_iff.mp h1).1) h2]
theorem sub_P {a : Nat → Nat} {H : Heap} {locs : List Loc} {ls : Array Slot} (hX : Fx X cc own ret d mc ms) (S : Sm X a H locs ls L h) (e1 : ι.map (fun i => h[i]?) = hc.map (fun c => some (rC (rho ι ι.length h.length) c))) (hnd : va_nd ι = true) (hsm : Nat.ble ι.length 1000 = true) :
    va_P (cxD X) vwCl (tW (cxk X) (fun i => a (rho ι ι.length h.length i)) hc) H ∧ va_D (fun _ => True) (tW (cxk X) (fun i => a (rho ι ι.length h.length i)) hc) ∧ (∀ q, va_A (tW (cxk X) (fun i => a (rho ι ι.length h.length i)) hc) H.size q → cxA X q) ∧ KK (cxD X) (cxk X) (fun i => a (rho ι ι.length h.length i)) (va_A (tW (cxk X) (fun i => a (rho ι ι.length h.length i)) hc) H.size) (cxs X) H := by
  obtain ⟨hP, hD, hS, hx, hl⟩ := S
  have hF : ∀ q, va_A (tW (cxk X) (fun i => a (rho ι ι.length h.length i)) hc) H.size q → cxA X q := by
    rintro q (⟨k, e, hk⟩ | hq)
    · obtain ⟨i, h1, h2⟩ := sub_W e1 hk
      exact hD.2 i _ h2
    · exact hX.A q (Nat.le_trans hS.1 hq)
  refine ⟨fun k q hk => ?_, ⟨fun i j p q hi hj e => ?_, fun _ _ _ => trivial⟩, hF, ?_⟩
  · obtain ⟨i, h1, h2⟩ := sub_W e1 hk
    exact hP i q h2
  · obtain ⟨i', h1, h2⟩ := sub_W e1 hi
    obtain ⟨j', h3, h4⟩ := sub_W e1 hj
    have := hD.1 i' j' p q h2 h4 e
    subst this
    exact va_nd_inj ι hnd i j i' h1 h3
  · exact KK.re (fun i hi => by show cxa X i = a (rho ι ι.length h.length i); rw [rho_hi (Nat.ble_eq.mp hsm) hi, hx i (Or.inr hi)]) (hX.K.kept hS.2.1 hF)
theorem pmP_blind {D : va_G} {ca : Nat → ClassId} {a : Nat → Nat} {sz : Nat} {as : List Value} {h : List PCell} : FrameBlind (pmP D ca a sz as h) := by
  rintro v U g mk ⟨h1, h2, h3, h4, h5⟩
  exact ⟨h1, h2, h3, KK.same (u := U) (U := U.calling g mk v) (H := U.heap) rfl h4, h5⟩
theorem pmP_of {a : Nat → Nat} {H : Heap} (hP : va_P (cxD X) vwCl (tW (cxk X) a hc) H) (hD : va_D (fun _ => True) (tW (cxk X) a hc)) (hK : KK (cxD X) (cxk X) a (va_A (tW (cxk X) a hc) H.size) (cxs X) H) : ∀ U : State, U.heap = H → (cxs X).WarmedH U.vm → pmP (cxD X) (cxk X) a H.size as hc (as.map (tV a)).toArray U := by
  intro U hU hW
  exact ⟨rfl, by rw [hU], by rw [hU]; exact hP, by rw [hU]; exact hK.warm hW, hD⟩
/-- a run of the callee, back in our walk: no cell is new -/
theorem PW.core (hX : Fx X cc own ret d mc ms) (e1 : ι.map (fun i => h[i]?) = hc.map (fun c => some (rC (rho ι ι.length h.length) c))) (hnd : va_nd ι = true) (hsm : Nat.ble ι.length 1000 = true)
    (hΦ : ∀ r h', Φ r h' → h'.length = ι.length ∧ okH ι.length h' = true ∧ isI r = true)
    (hrun : ∀ (a : Nat → Nat) (H : Heap) (locs : List Loc) (ls : Array Slot), Sm X a H locs ls L h → ∃ g : Array Value, va_Run (cxp X) (cxl X) (cxe X) (cxR X) (cxs X) (cxm X) (cxg X) (cxb X) (cxM X) (cxc X) H locs kc ks mc' ms' (F0 (cxm X) pc ls (st.map (tV a))) (rest.map (tV a)) (pmQ (cxD X) (cxk X) (fun i => a (rho ι ι.length h.length i)) H.size hc Φ g) (va_A (tW (cxk X) (fun i => a (rho ι ι.length h.length i)) hc) H.size))
    (kk : ∀ r h', Φ r h' → PW X (pc + 3) L (r.toList ++ rest) (updH h ι (h'.map (rC (rho ι ι.length h.length)))) (kc + mc') (ks + ms')) : PW X pc L st h kc ks := by
  intro a H locs ls S
  obtain ⟨g, hr⟩ := hrun a H locs ls S
  obtain ⟨hP, hD, hS, hx, hl⟩ := id S
  obtain ⟨hPc, hDc, hFc, hKc⟩ := sub_P hX S e1 hnd hsm
  intro T hT Xs
  obtain ⟨v, st₀, t, T', L', h0, X', hL, e3, e4, ⟨⟨r, h', a', hv, hφ, ha', hP', hD'⟩, hF⟩, stp⟩ := hr T hT Xs
  obtain ⟨hlen, hok, hi⟩ := hΦ r h' hφ
  obtain ⟨hlc, hpk⟩ := pick_at e1
  have hw : tW (cxk X) a' h' = tW (cxk X) (fun i => a (rho ι ι.length h.length i)) h' := tW_congr (n := ι.length) (fun i hi => ha' i (by rw [← hlc]; exact hi)) (Nat.le_of_eq hlen) hok
  rw [hw] at hP'
  have hv' : v = r := by
    cases r with
    | none => simpa using hv
    | some w => cases w <;> first | (simp [isI] at hi; done) | simpa [tV] using hv
  subst hv'
  have hz : H.size ≤ t.heap.size := by have := hF.1; rw [h0] at this; exact this
  have hk : ∀ q : Nat, q < H.size → ¬ va_A (tW (cxk X) (fun i => a (rho ι ι.length h.length i)) hc) H.size q → t.heap[q]? = H[q]? := by have := hF.2; rw [h0] at this; exact this
  have hι : ∀ (k i : Nat), ι[k]? = some i → i < h.length := by
    intro k i hki
    have hkl : k < hc.length := by rw [← hlc]; exact (List.getElem?_eq_some_iff.mp hki).1
    obtain ⟨j, h1, h2⟩ := hpk k hc[k] (List.getElem?_eq_getElem hkl)
    rw [hki] at h1
    cases h1
    exact (List.getElem?_eq_some_iff.mp h2).1
  have S' : Sm X a T'.heap (locs ++ L') ls L (updH h ι (h'.map (rC (rho ι ι.length h.length)))) := by
    refine ⟨fun j q hj => ?_, ⟨fun i j p q hi hj e => ?_, fun j q hj => ?_⟩, ⟨Nat.le_trans hS.1 (by rw [e3]; exact hz), fun q h1 h2 => ?_, fun q hq => ?_⟩, hx, hl⟩
    · obtain ⟨c, h1, rfl⟩ := tW_of hj
      rw [e3]
      by_cases hji : j ∈ ι
      · obtain ⟨k, hk1⟩ := List.getElem?_of_mem hji
        have hkl : k < h'.length := by rw [hlen]; exact (List.getElem?_eq_some_iff.mp hk1).1
        have h2 : (h'.map (rC (rho ι ι.length h.length)))[k]? = some (rC (rho ι ι.length h.length) h'[k]) := by simp [hkl]
        rw [updH_in ι _ h k j _ hnd hk1 h2 (hι k j hk1)] at h1
        cases h1
        have h3 := hP' k _ (tW_at (List.getElem?_eq_getElem hkl))
        rw [tC_rC]
        rw [rho_in (by rw [← hlen]; exact hkl) hk1] at h3
        exact h3
      · rw [updH_out ι _ h j hji] at h1
        have h2 := hP j _ (tW_at h1)
        refine h2.kept (hk _ h2.lt (fun hA => ?_))
        rcases hA with ⟨k, e, hA⟩ | hA
        · obtain ⟨i, h3, h4⟩ := sub_W e1 hA
          have := hD.1 i j _ _ h4 (tW_at h1) rfl
          subst this
          exact hji (List.mem_of_getElem? h3)
        · exact absurd h2.lt (Nat.not_lt.mpr hA)
    · obtain ⟨c, h1, rfl⟩ := tW_of hi
      obtain ⟨c2, h2, rfl⟩ := tW_of hj
      have l1 := (List.getElem?_eq_some_iff.mp h1).1
      have l2 := (List.getElem?_eq_some_iff.mp h2).1
      rw [updH_len] at l1 l2
      exact hD.1 i j _ _ (tW_at (List.getElem?_eq_getElem l1)) (tW_at (List.getElem?_eq_getElem l2)) e
    · obtain ⟨c, h1, rfl⟩ := tW_of hj
      have l1 := (List.getElem?_eq_some_iff.mp h1).1
      rw [updH_len] at l1
      have h9 := hD.2 j _ (tW_at (ca := cxk X) (a := a) (List.getElem?_eq_getElem l1))
      exact h9
    · rw [e3, hk q (Nat.lt_of_lt_of_le h1 hS.1) (fun z => h2 (hFc q z))]
      exact hS.2.1 q h1 h2
    · rcases List.mem_append.mp hq with h | h
      · exact hS.2.2 q h
      · exact hFc _ (hL q h)
  obtain ⟨t2, a1, b1⟩ := kk v h' hφ a T'.heap (locs ++ L') ls S' T' rfl X'
  refine ⟨t2, stp t2 ?_, b1⟩
  have e5 : (v.toList ++ rest).map (tV a) = v.toList ++ rest.map (tV a) := by
    rw [List.map_append]
    congr 1
    cases v with
    | none => rfl
    | some w => cases w <;> first | (simp [isI] at hi; done) | rfl
  rw [e5] at a1
  exact a1
theorem good_ws : GoodIn AW AW := fun w h => ⟨h, AW_good w h⟩
theorem cat_rest {a : Nat → Nat} {rest : List Value} (hr : Nat.ble ((rest.map fun v => v.category).sum) 8 = true) {m : MethodId} {pc : Nat} {ls : Array Slot} {st : List Value} : 2 * (F0 m pc ls st).monitorRoom + ((rest.map (tV a)).map fun v => v.category).sum ≤ 8 := by
  have : ((rest.map (tV a)).map fun v => v.category) = rest.map fun v => v.category := by simp [tV_cat, Function.comp_def]
  rw [this]
  have h1 : (F0 m pc ls st).monitorRoom = 0 := rfl
  rw [h1]
  have := Nat.ble_eq.mp hr
  omega
/-- invokevirtual -/
theorem PW.callV (hX : Fx X cc own ret d mc ms) {idx ci i : Nat} {fs : List Value} {T : u_T} {N : Nat} (hm : MSV own idx μ n) (hM : PM μ d' mc' ms' as hc Φ) (hd : decode cc pc = .ok (.invokevirtual idx, 3))
    (ι : List Nat) (e1 : ι.map (fun i => h[i]?) = hc.map (fun c => some (rC (rho ι ι.length h.length) c))) (hst : st = (as.map (tV (rho ι ι.length h.length))).reverse ++ rest) (hob : (as.map (tV (rho ι ι.length h.length))).head? = some (.ref i)) (hn : as.length = n + 1) (he : h[i]? = some (.inr (ci, fs))) (hci : vwCl[ci]? = some (μ.1.cls, T, N))
    (hnd : va_nd ι = true) (hsm : Nat.ble ι.length 1000 = true) (hdd : Nat.blt d' d = true) (hcc : Nat.ble (kc + mc') mc = true) (hss : Nat.ble (ks + ms') ms = true) (hr : Nat.ble ((rest.map fun v => v.category).sum) 8 = true)
    (hΦ : ∀ r h', Φ r h' → h'.length = ι.length ∧ okH ι.length h' = true ∧ isI r = true)
    (kk : ∀ r h', Φ r h' → PW X (pc + 3) L (r.toList ++ rest) (updH h ι (h'.map (rC (rho ι ι.length h.length)))) (kc + mc') (ks + ms')) : PW X pc L st h kc ks := by
  refine PW.core hX e1 hnd hsm hΦ (fun a H locs ls S => ?_) kk
  obtain ⟨hPc, hDc, hFc, hKc⟩ := sub_P hX S e1 hnd hsm
  obtain ⟨hlk, hin, hcd, ⟨hb1, hb2, hb3⟩, hml, him, hse⟩ := hm
  obtain ⟨r1, r2, r3, r4⟩ := hX.r
  have hdd := Nat.blt_eq.mp hdd
  have hcc := Nat.ble_eq.mp hcc
  have hss := Nat.ble_eq.mp hss
  cases as with
  | nil => simp at hn
  | cons v0 As =>
    simp only [List.map_cons, List.head?_cons, Option.some.injEq] at hob
    refine ⟨((v0 :: As).map (tV (fun i => a (rho ι ι.length h.length i)))).toArray, ?_⟩
    have e0 : tV (fun i => a (rho ι ι.length h.length i)) v0 = .ref (a i) := by rw [← tV_tV a, hob]; rfl
    have e2 : ((v0 :: As).map (tV (fun i => a (rho ι ι.length h.length i)))).toArray = (Value.ref (a i) :: As.map (tV (fun i => a (rho ι ι.length h.length i)))).toArray := by rw [List.map_cons, e0]
    rw [e2]
    refine va_runV (As := As.map (tV (fun i => a (rho ι ι.length h.length i)))) (b := a i) (C := μ.1.cls) (n := n) (rest := rest.map (tV a)) (Ts := AW) (nL := cxL X) ⟨hX.x, hX.b, hX.ml, hX.ow, hX.ts⟩ (hM (cxl X) (cxD X) (cxk X) (fun i => a (rho ι ι.length h.length i)) H.size) (cwV n hX.ts (fun w hw => ?_) rfl rfl rfl ⟨rfl, hb1, hb2, hb3⟩ ⟨by show d' + 1 ≤ _; omega, by show 8 + (μ.2.2.1 + 11) + 32 * d' ≤ _; omega⟩) ⟨pmP_blind, va_recv hX.K.1 S.1 hci (tW_at he), fun U hU hW => ?_⟩ rfl ?_ S.2.2.2.2.1 ?_ (cat_rest hr) hd ⟨by omega, by omega⟩
    · simp only [wsV, List.mem_append, List.mem_cons, List.not_mem_nil, or_false] at hw
      rcases hw with (rfl | rfl | rfl | rfl) | (rfl | hw)
      · exact good_ws _ hlk
      · exact good_ws _ him
      · exact good_ws _ hse
      · exact good_ws _ hin
      · exact good_ws _ hcd
      · exact good_ws _ hw
    · rw [← e2]
      exact pmP_of hPc hDc hKc U hU hW
    · simpa using hn
    · show st.map (tV a) = _
      rw [hst, List.map_append, ← List.map_reverse, List.map_map]
      have e3 : tV a ∘ tV (rho ι ι.length h.length) = tV (fun i => a (rho ι ι.length h.length i)) := funext fun v => tV_tV a _ v
      rw [e3, List.reverse_cons, List.map_append, List.map_cons, List.map_nil, e0, List.map_reverse, List.append_assoc]
      rfl
/-- invokestatic: of the own class or another, and of a nest mate -/
theorem PW.callS (hX : Fx X cc own ret d mc ms) {idx : Nat} (hm : MSS own idx μ n) (hM : PM μ d' mc' ms' as hc Φ) (hd : decode cc pc = .ok (.invokestatic idx, 3))
    (ι : List Nat) (e1 : ι.map (fun i => h[i]?) = hc.map (fun c => some (rC (rho ι ι.length h.length) c))) (hst : st = (as.map (tV (rho ι ι.length h.length))).reverse ++ rest) (hn : as.length = n)
    (hnd : va_nd ι = true) (hsm : Nat.ble ι.length 1000 = true) (hdd : Nat.blt d' d = true) (hcc : Nat.ble (kc + mc') mc = true) (hss : Nat.ble (ks + ms') ms = true) (hr : Nat.ble ((rest.map fun v => v.category).sum) 8 = true)
    (hΦ : ∀ r h', Φ r h' → h'.length = ι.length ∧ okH ι.length h' = true ∧ isI r = true)
    (kk : ∀ r h', Φ r h' → PW X (pc + 3) L (r.toList ++ rest) (updH h ι (h'.map (rC (rho ι ι.length h.length)))) (kc + mc') (ks + ms')) : PW X pc L st h kc ks := by
  refine PW.core hX e1 hnd hsm hΦ (fun a H locs ls S => ?_) kk
  obtain ⟨hPc, hDc, hFc, hKc⟩ := sub_P hX S e1 hnd hsm
  obtain ⟨hlk, hin, hcd, ⟨hb1, hb2, hb3⟩, hml, hsta⟩ := hm
  obtain ⟨r1, r2, r3, r4⟩ := hX.r
  have hdd := Nat.blt_eq.mp hdd
  have hcc := Nat.ble_eq.mp hcc
  have hss := Nat.ble_eq.mp hss
  refine ⟨(as.map (tV (fun i => a (rho ι ι.length h.length i)))).toArray, ?_⟩
  refine va_runS (As := as.map (tV (fun i => a (rho ι ι.length h.length i)))) (n := n) (rest := rest.map (tV a)) (Ts := AW) (nL := cxL X) ⟨hX.x, hX.b, hX.ml, hX.ow, hX.ts⟩ (hM (cxl X) (cxD X) (cxk X) (fun i => a (rho ι ι.length h.length i)) H.size) (va_cwS n hX.ts (fun w hw => ?_) rfl rfl rfl ⟨hb1, hb2, hb3⟩ ⟨by show d' + 1 ≤ _; omega, by show 8 + (μ.2.2.1 + 11) + 32 * d' ≤ _; omega⟩) ⟨pmP_blind, fun U hU hW => pmP_of hPc hDc hKc U hU hW⟩ rfl (by simpa using hn) S.2.2.2.2.1 ?_ (cat_rest hr) hd ⟨by omega, by omega⟩
  · simp only [va_wsS, List.mem_append, List.mem_cons, List.not_mem_nil, or_false] at hw
    rcases hw with (rfl | rfl | rfl) | (rfl | hw)
    · exact good_ws _ hlk
    · exact good_ws _ hsta
    · exact good_ws _ hin
    · exact good_ws _ hcd
    · exact good_ws _ hw
  · show st.map (tV a) = _
    rw [hst, List.map_append, ← List.map_reverse, List.map_map]
    have e3 : tV a ∘ tV (rho ι ι.length h.length) = tV (fun i => a (rho ι ι.length h.length i)) := funext fun v => tV_tV a _ v
    rw [e3, List.map_reverse]
theorem PW.callN (hX : Fx X cc own ret d mc ms) {idx : Nat} (hm : MNS own idx μ n) (hM : PM μ d' mc' ms' as hc Φ) (hd : decode cc pc = .ok (.invokestatic idx, 3))
    (ι : List Nat) (e1 : ι.map (fun i => h[i]?) = hc.map (fun c => some (rC (rho ι ι.length h.length) c))) (hst : st = (as.map (tV (rho ι ι.length h.length))).reverse ++ rest) (hn : as.length = n)
    (hnd : va_nd ι = true) (hsm : Nat.ble ι.length 1000 = true) (hdd : Nat.blt d' d = true) (hcc : Nat.ble (kc + mc') mc = true) (hss : Nat.ble (ks + ms') ms = true) (hr : Nat.ble ((rest.map fun v => v.category).sum) 8 = true)
    (hΦ : ∀ r h', Φ r h' → h'.length = ι.length ∧ okH ι.length h' = true ∧ isI r = true)
    (kk : ∀ r h', Φ r h' → PW X (pc + 3) L (r.toList ++ rest) (updH h ι (h'.map (rC (rho ι ι.length h.length)))) (kc + mc') (ks + ms')) : PW X pc L st h kc ks := by
  refine PW.core hX e1 hnd hsm hΦ (fun a H locs ls S => ?_) kk
  obtain ⟨hPc, hDc, hFc, hKc⟩ := sub_P hX S e1 hnd hsm
  obtain ⟨hlk, hin, hcd, hbb, hml, hsta⟩ := hm
  obtain ⟨r1, r2, r3, r4⟩ := hX.r
  have hdd := Nat.blt_eq.mp hdd
  have hcc := Nat.ble_eq.mp hcc
  have hss := Nat.ble_eq.mp hss
  refine ⟨(as.map (tV (fun i => a (rho ι ι.length h.length i)))).toArray, ?_⟩
  refine va_runSN (As := as.map (tV (fun i => a (rho ι ι.length h.length i)))) (n := n) (rest := rest.map (tV a)) (Ts := AW) (nL := cxL X) ⟨hX.x, hX.b, hX.ml, hX.ow, hX.ts⟩ (hM (cxl X) (cxD X) (cxk X) (fun i => a (rho ι ι.length h.length i)) H.size) ⟨va_cnB n hX.ts (fun w hw => ?_) rfl rfl rfl (hX.K.2.1 _ hlk) (hX.ts _ hin) hbb ⟨by show d' + 1 ≤ _; omega, by show 8 + (μ.2.2.1 + 11) + 32 * d' ≤ _; omega⟩, hX.ts _ hsta, trivial⟩ ⟨pmP_blind, fun U hU hW => pmP_of hPc hDc hKc U hU hW⟩ rfl (by simpa using hn) S.2.2.2.2.1 ?_ (cat_rest hr) hd ⟨by omega, by omega⟩
  · rcases List.mem_cons.mp hw with rfl | hw
    · exact good_ws _ hcd
    · exact good_ws _ hw
  · show st.map (tV a) = _
    rw [hst, List.map_append, ← List.map_reverse, List.map_map]
    have e3 : tV a ∘ tV (rho ι ι.length h.length) = tV (fun i => a (rho ι ι.length h.length i)) := funext fun v => tV_tV a _ v
    rw [e3, List.map_reverse]
end Calls
