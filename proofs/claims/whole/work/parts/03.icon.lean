/-! calls that make cells (constructors) -/
def joinH (h : List PCell) (ι : List Nat) (h' : List PCell) : List PCell := updH h ι ((h'.take ι.length).map (rC (rho ι ι.length h.length))) ++ (h'.drop ι.length).map (rC (rho ι ι.length h.length))
section Con
variable {X : Cx} {cc : ByteArray} {own : String} {ret : Option FieldType} {d mc ms : Nat} {pc : Nat} {L : List (Option Value)} {st rest : List Value} {h hc : List PCell} {kc ks : Nat} {μ : MI} {d' mc' ms' n : Nat} {as : List Value} {ι : List Nat} {Φ : Option Value → List PCell → Prop}
theorem PW.coreN (hX : Fx X cc own ret d mc ms) (e1 : ι.map (fun i => h[i]?) = hc.map (fun c => some (rC (rho ι ι.length h.length) c))) (hnd : va_nd ι = true) (hsm : Nat.ble ι.length 1000 = true) (hx0 : cxn X ≤ h.length) (hok : okS h.length L rest h = true)
    (hΦ : ∀ r h', Φ r h' → r = none ∧ ι.length ≤ h'.length ∧ h'.length + h.length ≤ 1000 ∧ okH h'.length h' = true)
    (hrun : ∀ (a : Nat → Nat) (H : Heap) (locs : List Loc) (ls : Array Slot), Sm X a H locs ls L h → ∃ g : Array Value, va_Run (cxp X) (cxl X) (cxe X) (cxR X) (cxs X) (cxm X) (cxg X) (cxb X) (cxM X) (cxc X) H locs kc ks mc' ms' (F0 (cxm X) pc ls (st.map (tV a))) (rest.map (tV a)) (pmQ (cxD X) (cxk X) (fun i => a (rho ι ι.length h.length i)) H.size hc Φ g) (va_A (tW (cxk X) (fun i => a (rho ι ι.length h.length i)) hc) H.size))
    (kk : ∀ r h', Φ r h' → PW X (pc + 3) L rest (joinH h ι h') (kc + mc') (ks + ms')) : PW X pc L st h kc ks := by
  intro a H locs ls S
  obtain ⟨g, hr⟩ := hrun a H locs ls S
  obtain ⟨hP, hD, hS, hx, hl⟩ := id S
  obtain ⟨hPc, hDc, hFc, hKc⟩ := sub_P hX S e1 hnd hsm
  intro T hT Xs
  obtain ⟨v, st₀, t, T', L', h0, X', hL, e3, e4, ⟨⟨r, h', a', hv, hφ, ha', hP', hD'⟩, hF⟩, stp⟩ := hr T hT Xs
  obtain ⟨hrn, hlen, hbig, hok'⟩ := hΦ r h' hφ
  subst hrn
  have ha' : ∀ i, i < hc.length ∨ 1000 ≤ i → a' i = a (rho ι ι.length h.length i) := ha'
  obtain ⟨hlc, hpk⟩ := pick_at e1
  have hsm := Nat.ble_eq.mp hsm
  simp only [okS, Bool.and_eq_true] at hok
  obtain ⟨o1, o2, o3⟩ := hok
  have hz : H.size ≤ t.heap.size := by have := hF.1; rw [h0] at this; exact this
  have hk : ∀ q : Nat, q < H.size → ¬ va_A (tW (cxk X) (fun i => a (rho ι ι.length h.length i)) hc) H.size q → t.heap[q]? = H[q]? := by have := hF.2; rw [h0] at this; exact this
  have hι : ∀ (k i : Nat), ι[k]? = some i → i < h.length := by
    intro k i hki
    have hkl : k < hc.length := by rw [← hlc]; exact (List.getElem?_eq_some_iff.mp hki).1
    obtain ⟨j, h1, h2⟩ := hpk k hc[k] (List.getElem?_eq_getElem hkl)
    rw [hki] at h1
    cases h1
    exact (List.getElem?_eq_some_iff.mp h2).1
  obtain ⟨a1, ha1⟩ : ∃ a1 : Nat → Nat, a1 = fun i => if h.length ≤ i ∧ i < 1000 then a' (i - h.length + ι.length) else a i := ⟨_, rfl⟩
  have ag : ∀ i, i < h.length ∨ 1000 ≤ i → a i = a1 i := by
    intro i hi
    rw [ha1]
    show a i = if _ then _ else _
    rw [if_neg (by omega)]
  have key : ∀ i, i < h'.length ∨ 1000 ≤ i → a1 (rho ι ι.length h.length i) = a' i := by
    intro i hi
    by_cases c1 : i < ι.length
    · have hk1 : ι[i]? = some ι[i] := List.getElem?_eq_getElem c1
      rw [ha' i (Or.inl (by rw [← hlc]; exact c1)), rho_in c1 hk1, ← ag _ (Or.inl (hι i _ hk1))]
    · by_cases c2 : 1000 ≤ i
      · rw [ha' i (Or.inr c2), rho_hi hsm c2, ← ag i (Or.inr c2)]
      · rw [rho_new (by omega) (by omega), ha1]
        show (if _ then _ else _) = _
        rw [if_pos (by omega)]
        congr 1
        omega
  have atN : ∀ (k : Nat) (c : PCell), h'[k]? = some c → tC (cxk X) a1 (rC (rho ι ι.length h.length) c) = tC (cxk X) a' c := by
    intro k c hc
    rw [tC_rC]
    exact tC_congr (n := h'.length) key (List.all_eq_true.mp hok' c (List.mem_of_getElem? hc))
  have atJ : ∀ (j : Nat) (c : PCell), (joinH h ι h')[j]? = some c → (∃ k, k < ι.length ∧ ι[k]? = some j ∧ j < h.length ∧ ∃ c', h'[k]? = some c' ∧ c = rC (rho ι ι.length h.length) c') ∨ (j ∉ ι ∧ h[j]? = some c ∧ j < h.length) ∨ (h.length ≤ j ∧ j < 1000 ∧ ∃ c', h'[j - h.length + ι.length]? = some c' ∧ c = rC (rho ι ι.length h.length) c') := by
    intro j c hj
    unfold joinH at hj
    rw [List.getElem?_append, updH_len] at hj
    by_cases c1 : j < h.length
    · rw [if_pos c1] at hj
      by_cases hji : j ∈ ι
      · obtain ⟨k, hk1⟩ := List.getElem?_of_mem hji
        have hkl : k < ι.length := (List.getElem?_eq_some_iff.mp hk1).1
        have hkl' : k < h'.length := by omega
        have h2 : ((h'.take ι.length).map (rC (rho ι ι.length h.length)))[k]? = some (rC (rho ι ι.length h.length) h'[k]) := by simp [List.getElem?_take, hkl, hkl']
        rw [updH_in ι _ h k j _ hnd hk1 h2 c1] at hj
        cases hj
        exact Or.inl ⟨k, hkl, hk1, c1, _, List.getElem?_eq_getElem hkl', rfl⟩
      · rw [updH_out ι _ h j hji] at hj
        exact Or.inr (Or.inl ⟨hji, hj, c1⟩)
    · rw [if_neg c1, List.getElem?_map, List.getElem?_drop, Option.map_eq_some_iff] at hj
      obtain ⟨c', h1, h2⟩ := hj
      have hlt := (List.getElem?_eq_some_iff.mp h1).1
      exact Or.inr (Or.inr ⟨by omega, by omega, c', by rw [← h1]; congr 1; omega, h2.symm⟩)
  have adr : ∀ (j k : Nat), ι[k]? = some j → k < ι.length → a' k = a j := by
    intro j k hk1 hkl
    rw [ha' k (Or.inl (by rw [← hlc]; exact hkl)), rho_in hkl hk1]
  have adN : ∀ j, h.length ≤ j → j < 1000 → a1 j = a' (j - h.length + ι.length) := by
    intro j h1 h2
    rw [ha1]
    show (if _ then _ else _) = _
    rw [if_pos ⟨h1, h2⟩]
  have S' : Sm X a1 T'.heap (locs ++ L') ls L (joinH h ι h') := by
    have inj0 : ∀ (i j : Nat), i < h.length → j < h.length → a i = a j → i = j := fun i j h1 h2 e => hD.1 i j _ _ (tW_at (List.getElem?_eq_getElem h1)) (tW_at (List.getElem?_eq_getElem h2)) e
    have lt0 : ∀ j, j < h.length → a j < H.size := fun j h1 => (hP j _ (tW_at (List.getElem?_eq_getElem h1))).lt
    have injN : ∀ (i j : Nat), i < h'.length → j < h'.length → a' i = a' j → i = j := fun i j h1 h2 e => hD'.1 i j _ _ (tW_at (List.getElem?_eq_getElem h1)) (tW_at (List.getElem?_eq_getElem h2)) e
    have mix : ∀ (j k : Nat), j < h.length → ι.length ≤ k → k < h'.length → ¬ a j = a' k := by
      intro j k h1 h2 h3 e
      have h4 : va_A (tW (cxk X) (fun i => a (rho ι ι.length h.length i)) hc) H.size (a' k) := hD'.2 k _ (tW_at (List.getElem?_eq_getElem h3))
      rcases h4 with ⟨k0, e0, h5⟩ | h5
      · obtain ⟨c0, h6, h7⟩ := tW_of h5
        have hk0 : k0 < ι.length := by rw [hlc]; exact (List.getElem?_eq_some_iff.mp h6).1
        have h8 : a' k = a' k0 := by
          rw [ha' k0 (Or.inl (by rw [← hlc]; exact hk0))]
          exact (Prod.mk.inj h7).1
        have := injN k k0 h3 (by omega) h8
        omega
      · have := lt0 j h1
        omega
    refine ⟨fun j q hj => ?_, ⟨fun i j p q hi hj e => ?_, fun j q hj => ?_⟩, ⟨Nat.le_trans hS.1 (by rw [e3]; exact hz), fun q h1 h2 => ?_, fun q hq => ?_⟩, fun i hi => by rw [← ag i (by omega)]; exact hx i hi, lvS_congr ag o2 hl⟩
    · obtain ⟨c, h1, rfl⟩ := tW_of hj
      rw [e3]
      rcases atJ j c h1 with ⟨k, hkl, hk1, hjl, c', h2, rfl⟩ | ⟨hji, h2, hjl⟩ | ⟨h2, h3, c', h4, rfl⟩
      · have h3 := hP' k _ (tW_at h2)
        rw [adr j k hk1 hkl] at h3
        rw [atN k c' h2, ← ag j (Or.inl hjl)]
        exact h3
      · have h3 := hP j _ (tW_at h2)
        rw [← ag j (Or.inl hjl), ← tC_congr (n := h.length) ag (List.all_eq_true.mp o1 c (List.mem_of_getElem? h2))]
        refine h3.kept (hk _ h3.lt (fun hA => ?_))
        rcases hA with ⟨k, e, hA⟩ | hA
        · obtain ⟨i, h4, h5⟩ := sub_W e1 hA
          have := hD.1 i j _ _ h5 (tW_at h2) rfl
          subst this
          exact hji (List.mem_of_getElem? h4)
        · exact absurd h3.lt (Nat.not_lt.mpr hA)
      · have h5 := hP' _ _ (tW_at h4)
        rw [atN _ c' h4, adN j h2 h3]
        exact h5
    · obtain ⟨c, h1, rfl⟩ := tW_of hi
      obtain ⟨c2, h2, rfl⟩ := tW_of hj
      have e' : a1 i = a1 j := e
      have cls : ∀ (j : Nat) (c : PCell), (joinH h ι h')[j]? = some c → j < h.length ∨ (h.length ≤ j ∧ j < 1000 ∧ j - h.length + ι.length < h'.length) := by
        intro j c hj
        rcases atJ j c hj with ⟨k, _, _, hjl, _⟩ | ⟨_, _, hjl⟩ | ⟨h2, h3, c', h4, _⟩
        · exact Or.inl hjl
        · exact Or.inl hjl
        · exact Or.inr ⟨h2, h3, (List.getElem?_eq_some_iff.mp h4).1⟩
      rcases cls i c h1 with q1 | ⟨q1, q2, q3⟩ <;> rcases cls j c2 h2 with q4 | ⟨q4, q5, q6⟩
      · rw [← ag i (Or.inl q1), ← ag j (Or.inl q4)] at e'
        exact inj0 i j q1 q4 e'
      · rw [← ag i (Or.inl q1), adN j q4 q5] at e'
        exact absurd e' (mix i _ q1 (by omega) q6)
      · rw [adN i q1 q2, ← ag j (Or.inl q4)] at e'
        exact absurd e'.symm (mix j _ q4 (by omega) q3)
      · rw [adN i q1 q2, adN j q4 q5] at e'
        have := injN _ _ q3 q6 e'
        omega
    · obtain ⟨c, h1, rfl⟩ := tW_of hj
      show cxA X (a1 j)
      rcases atJ j c h1 with ⟨k, _, _, hjl, _⟩ | ⟨_, _, hjl⟩ | ⟨h2, h3, c', h4, _⟩
      · rw [← ag j (Or.inl hjl)]
        have h9 := hD.2 j _ (tW_at (ca := cxk X) (a := a) (List.getElem?_eq_getElem hjl))
        exact h9
      · rw [← ag j (Or.inl hjl)]
        have h9 := hD.2 j _ (tW_at (ca := cxk X) (a := a) (List.getElem?_eq_getElem hjl))
        exact h9
      · rw [adN j h2 h3]
        have h9 := hD'.2 _ _ (tW_at h4)
        exact hFc _ h9
    · rw [e3, hk q (Nat.lt_of_lt_of_le h1 hS.1) (fun z => h2 (hFc q z))]
      exact hS.2.1 q h1 h2
    · rcases List.mem_append.mp hq with h | h
      · exact hS.2.2 q h
      · exact hFc _ (hL q h)
  obtain ⟨t2, b1, b2⟩ := kk none h' hφ a1 T'.heap (locs ++ L') ls S' T' rfl X'
  refine ⟨t2, stp t2 ?_, b2⟩
  have hv' : v = none := by simpa using hv
  subst hv'
  rw [← st_congr ag o3] at b1
  exact b1
theorem PW.callI (hX : Fx X cc own ret d mc ms) {idx i : Nat} (hm : MSI own idx μ n) (hnone : μ.2.2.2 = none) (hM : PM μ d' mc' ms' as hc Φ) (hd : decode cc pc = .ok (.invokespecial idx, 3))
    (ι : List Nat) (e1 : ι.map (fun i => h[i]?) = hc.map (fun c => some (rC (rho ι ι.length h.length) c))) (hst : st = (as.map (tV (rho ι ι.length h.length))).reverse ++ rest) (hob : (as.map (tV (rho ι ι.length h.length))).head? = some (.ref i)) (hn : as.length = n + 1)
    (hnd : va_nd ι = true) (hsm : Nat.ble ι.length 1000 = true) (hdd : Nat.blt d' d = true) (hcc : Nat.ble (kc + mc') mc = true) (hss : Nat.ble (ks + ms') ms = true) (hr : Nat.ble ((rest.map fun v => v.category).sum) 8 = true) (hx0 : cxn X ≤ h.length) (hok : okS h.length L rest h = true)
    (hΦ : ∀ r h', Φ r h' → r = none ∧ ι.length ≤ h'.length ∧ h'.length + h.length ≤ 1000 ∧ okH h'.length h' = true)
    (kk : ∀ r h', Φ r h' → PW X (pc + 3) L rest (joinH h ι h') (kc + mc') (ks + ms')) : PW X pc L st h kc ks := by
  refine PW.coreN hX e1 hnd hsm hx0 hok hΦ (fun a H locs ls S => ?_) kk
  obtain ⟨hPc, hDc, hFc, hKc⟩ := sub_P hX S e1 hnd hsm
  obtain ⟨hlk, hin, hcd, hbb, hml, hnm, him⟩ := hm
  obtain ⟨r1, r2, r3, r4⟩ := hX.r
  have hdd := Nat.blt_eq.mp hdd
  have hcc := Nat.ble_eq.mp hcc
  have hss := Nat.ble_eq.mp hss
  cases as with
  | nil => simp at hn
  | cons v0 As =>
    simp only [List.map_cons, List.head?_cons, Option.some.injEq] at hob
    refine ⟨((v0 :: As).map (tV (fun i => a (rho ι ι.length h.length i)))).toArray, ?_⟩
    have e0 : tV (fun i => a (rho ι ι.length h.length i)) v0 = .ref (a i) := by rw [← tV_tV a, hob]; rfl
    have e2 : ((v0 :: As).map (tV (fun i => a (rho ι ι.length h.length i)))).toArray = (Value.ref (a i) :: As.map (tV (fun i => a (rho ι ι.length h.length i)))).toArray := by rw [List.map_cons, e0]
    rw [e2]
    refine va_runI (As := As.map (tV (fun i => a (rho ι ι.length h.length i)))) (b := a i) (n := n) (rest := rest.map (tV a)) (Ts := AW) (nL := cxL X) ⟨hX.x, hX.b, hX.ml, hX.ow, hX.ts⟩ (hM (cxl X) (cxD X) (cxk X) (fun i => a (rho ι ι.length h.length i)) H.size) (cwI (ws' := AW) n hX.ts (fun w hw => ?_) (by rw [hnone]) rfl rfl (hX.ts _ hin) (hX.ts _ hlk) (hX.ts _ him) hnm hbb ⟨by show d' + 1 ≤ _; omega, by show 8 + (μ.2.2.1 + 11) + 32 * d' ≤ _; omega⟩) ⟨pmP_blind, fun U hU hW => ?_⟩ rfl ?_ S.2.2.2.2.1 ?_ (cat_rest hr) hd ⟨by omega, by omega⟩
    · rcases List.mem_cons.mp hw with rfl | hw
      · exact good_ws _ hcd
      · exact good_ws _ hw
    · rw [← e2]
      exact pmP_of hPc hDc hKc U hU hW
    · simpa using hn
    · show st.map (tV a) = _
      rw [hst, List.map_append, ← List.map_reverse, List.map_map]
      have e3 : tV a ∘ tV (rho ι ι.length h.length) = tV (fun i => a (rho ι ι.length h.length i)) := funext fun v => tV_tV a _ v
      rw [e3, List.reverse_cons, List.map_append, List.map_cons, List.map_nil, e0, List.map_reverse, List.append_assoc]
      rfl
theorem PW.callIN (hX : Fx X cc own ret d mc ms) {idx i : Nat} (hm : MNI own idx μ n) (hnone : μ.2.2.2 = none) (hM : PM μ d' mc' ms' as hc Φ) (hd : decode cc pc = .ok (.invokespecial idx, 3))
    (ι : List Nat) (e1 : ι.map (fun i => h[i]?) = hc.map (fun c => some (rC (rho ι ι.length h.length) c))) (hst : st = (as.map (tV (rho ι ι.length h.length))).reverse ++ rest) (hob : (as.map (tV (rho ι ι.length h.length))).head? = some (.ref i)) (hn : as.length = n + 1)
    (hnd : va_nd ι = true) (hsm : Nat.ble ι.length 1000 = true) (hdd : Nat.blt d' d = true) (hcc : Nat.ble (kc + mc') mc = true) (hss : Nat.ble (ks + ms') ms = true) (hr : Nat.ble ((rest.map fun v => v.category).sum) 8 = true) (hx0 : cxn X ≤ h.length) (hok : okS h.length L rest h = true)
    (hΦ : ∀ r h', Φ r h' → r = none ∧ ι.length ≤ h'.length ∧ h'.length + h.length ≤ 1000 ∧ okH h'.length h' = true)
    (kk : ∀ r h', Φ r h' → PW X (pc + 3) L rest (joinH h ι h') (kc + mc') (ks + ms')) : PW X pc L st h kc ks := by
  refine PW.coreN hX e1 hnd hsm hx0 hok hΦ (fun a H locs ls S => ?_) kk
  obtain ⟨hPc, hDc, hFc, hKc⟩ := sub_P hX S e1 hnd hsm
  obtain ⟨hlk, hin, hcd, hbb, hml, hnm, him⟩ := hm
  obtain ⟨r1, r2, r3, r4⟩ := hX.r
  have hdd := Nat.blt_eq.mp hdd
  have hcc := Nat.ble_eq.mp hcc
  have hss := Nat.ble_eq.mp hss
  cases as with
  | nil => simp at hn
  | cons v0 As =>
    simp only [List.map_cons, List.head?_cons, Option.some.injEq] at hob
    refine ⟨((v0 :: As).map (tV (fun i => a (rho ι ι.length h.length i)))).toArray, ?_⟩
    have e0 : tV (fun i => a (rho ι ι.length h.length i)) v0 = .ref (a i) := by rw [← tV_tV a, hob]; rfl
    have e2 : ((v0 :: As).map (tV (fun i => a (rho ι ι.length h.length i)))).toArray = (Value.ref (a i) :: As.map (tV (fun i => a (rho ι ι.length h.length i)))).toArray := by rw [List.map_cons, e0]
    rw [e2]
    refine va_runIN (As := As.map (tV (fun i => a (rho ι ι.length h.length i)))) (b := a i) (n := n) (rest := rest.map (tV a)) (Ts := AW) (nL := cxL X) ⟨hX.x, hX.b, hX.ml, hX.ow, hX.ts⟩ (hM (cxl X) (cxD X) (cxk X) (fun i => a (rho ι ι.length h.length i)) H.size) ⟨va_cnB (ws' := AW) n hX.ts (fun w hw => ?_) (by rw [hnone]) rfl rfl (hX.K.2.1 _ hlk) (hX.ts _ hin) hbb ⟨by show d' + 1 ≤ _; omega, by show 8 + (μ.2.2.1 + 11) + 32 * d' ≤ _; omega⟩, hnm, hX.ts _ him⟩ ⟨pmP_blind, fun U hU hW => ?_⟩ rfl ?_ S.2.2.2.2.1 ?_ (cat_rest hr) hd ⟨by omega, by omega⟩
    · rcases List.mem_cons.mp hw with rfl | hw
      · exact good_ws _ hcd
      · exact good_ws _ hw
    · rw [← e2]
      exact pmP_of hPc hDc hKc U hU hW
    · simpa using hn
    · show st.map (tV a) = _
      rw [hst, List.map_append, ← List.map_reverse, List.map_map]
      have e3 : tV a ∘ tV (rho ι ι.length h.length) = tV (fun i => a (rho ι ι.length h.length i)) := funext fun v => tV_tV a _ v
      rw [e3, List.reverse_cons, List.map_append, List.map_cons, List.map_nil, e0, List.map_reverse, List.append_assoc]
      rfl
end Con
