/-! The world as a map of addresses: what each address holds. Every contract takes the whole map. -/
abbrev Mp : Type := Nat → Option va_E
def mu (M : Mp) (a : Nat) (e : va_E) : Mp := fun q => if q = a then some e else M q
theorem mu_self (M : Mp) (a : Nat) (e : va_E) : mu M a e a = some e := by simp [mu]
theorem mu_ne (M : Mp) {a q : Nat} (e : va_E) (h : q ≠ a) : mu M a e q = M q := by simp [mu, h]
theorem mu_mu (M : Mp) (a : Nat) (e e2 : va_E) : mu (mu M a e) a e2 = mu M a e2 := by
  funext q
  by_cases h : q = a <;> simp [mu, h]
def mw (D : va_G) (A : Nat → Prop) (M : Mp) (H : Heap) : Prop := ∀ (a : Nat) (e : va_E), M a = some e → va_at D vwCl (a, e) H ∧ A a
def mL (M : Mp) : Nat → va_W
  | 0 => []
  | n + 1 => match M n with
    | none => mL M n
    | some e => mL M n ++ [(n, e)]
theorem mL_none {M : Mp} {n : Nat} (h : M n = none) : mL M (n + 1) = mL M n := by simp [mL, h]
theorem mL_some {M : Mp} {n : Nat} {e : va_E} (h : M n = some e) : mL M (n + 1) = mL M n ++ [(n, e)] := by simp [mL, h]
theorem mL_mem {M : Mp} : ∀ {n : Nat} {q : Nat × va_E}, q ∈ mL M n ↔ q.1 < n ∧ M q.1 = some q.2
  | 0, q => by simp [mL]
  | n + 1, q => by
    cases h : M n with
    | none =>
      rw [mL_none h, mL_mem]
      refine ⟨fun z => ⟨by omega, z.2⟩, fun z => ⟨?_, z.2⟩⟩
      rcases Nat.lt_or_ge q.1 n with r | r
      · exact r
      · have e : q.1 = n := by omega
        have := z.2
        rw [e, h] at this
        cases this
    | some v =>
      rw [mL_some h, List.mem_append, mL_mem, List.mem_singleton]
      refine ⟨fun z => ?_, fun z => ?_⟩
      · rcases z with z | z
        · exact ⟨by omega, z.2⟩
        · subst z
          exact ⟨by show n < n + 1; omega, h⟩
      · rcases Nat.lt_or_ge q.1 n with r | r
        · exact Or.inl ⟨r, z.2⟩
        · have e : q.1 = n := by omega
          have h2 := z.2
          rw [e, h] at h2
          right
          obtain ⟨q1, q2⟩ := q
          simp only at e h2
          subst e
          cases h2
          rfl
theorem mL_inj {M : Mp} : ∀ (n i j : Nat) (p q : Nat × va_E), (mL M n)[i]? = some p → (mL M n)[j]? = some q → p.1 = q.1 → i = j
  | 0, i, j, p, q, h, _, _ => by simp [mL] at h
  | n + 1, i, j, p, q, hi, hj, e => by
    cases h : M n with
    | none =>
      rw [mL_none h] at hi hj
      exact mL_inj n i j p q hi hj e
    | some v =>
      rw [mL_some h] at hi hj
      have key : ∀ (k : Nat) (x : Nat × va_E), (mL M n ++ [(n, v)])[k]? = some x → ((mL M n)[k]? = some x ∧ x.1 < n) ∨ (k = (mL M n).length ∧ x.1 = n) := by
        intro k x hk
        by_cases hl : k < (mL M n).length
        · rw [List.getElem?_append_left hl] at hk
          exact Or.inl ⟨hk, (mL_mem.mp (List.mem_of_getElem? hk)).1⟩
        · rw [List.getElem?_append_right (by omega)] at hk
          have hz : k - (mL M n).length < 1 := (List.getElem?_eq_some_iff.mp hk).1
          have hk0 : k - (mL M n).length = 0 := by omega
          rw [hk0] at hk
          cases hk
          exact Or.inr ⟨by omega, rfl⟩
      rcases key i p hi with ⟨a1, b1⟩ | ⟨a1, b1⟩ <;> rcases key j q hj with ⟨a2, b2⟩ | ⟨a2, b2⟩
      · exact mL_inj n i j p q a1 a2 e
      · omega
      · omega
      · omega
theorem mw.lt {D : va_G} {A : Nat → Prop} {M : Mp} {H : Heap} (h : mw D A M H) {a : Nat} {e : va_E} (hm : M a = some e) : a < H.size := (h a e hm).1.lt
theorem mw.fresh {D : va_G} {A : Nat → Prop} {M : Mp} {H : Heap} (h : mw D A M H) {a : Nat} (ha : H.size ≤ a) : M a = none := by
  cases hm : M a with
  | none => rfl
  | some e => have := h.lt hm; omega
theorem mw.one {D : va_G} {A : Nat → Prop} {M : Mp} {H : Heap} (h : mw D A M H) {a : Nat} {e : va_E} (hm : M a = some e) : va_P D vwCl [(a, e)] H := by
  intro k q hk
  match k, hk with
  | 0, hk => cases hk; exact (h a e hm).1
  | k + 1, hk => simp at hk
theorem mw.P {D : va_G} {A : Nat → Prop} {M : Mp} {H : Heap} (h : mw D A M H) : va_P D vwCl (mL M H.size) H := fun k q hk => (h q.1 q.2 (mL_mem.mp (List.mem_of_getElem? hk)).2).1
theorem mw.Ds {D : va_G} {A : Nat → Prop} {M : Mp} {H : Heap} (h : mw D A M H) : va_D A (mL M H.size) := ⟨fun i j p q hi hj e => mL_inj _ i j p q hi hj e, fun k q hk => (h q.1 q.2 (mL_mem.mp (List.mem_of_getElem? hk)).2).2⟩
theorem mw.ix {D : va_G} {A : Nat → Prop} {M : Mp} {H : Heap} (h : mw D A M H) {a : Nat} {e : va_E} (hm : M a = some e) : ∃ k : Nat, (mL M H.size)[k]? = some (a, e) := List.getElem?_of_mem (mL_mem.mpr ⟨h.lt hm, hm⟩)
theorem mw.back {D : va_G} {A : Nat → Prop} {M : Mp} {H H1 : Heap} (h : mw D A M H) {k a : Nat} {e0 e : va_E} (hk : (mL M H.size)[k]? = some (a, e0)) (hP : va_P D vwCl ((mL M H.size).set k (a, e)) H1) : mw D A (mu M a e) H1 := by
  have hl := (List.getElem?_eq_some_iff.mp hk).1
  have hm : M a = some e0 := (mL_mem.mp (List.mem_of_getElem? hk)).2
  intro q e1 hq
  by_cases hqa : q = a
  · subst hqa
    rw [mu_self] at hq
    cases hq
    exact ⟨hP k _ (List.getElem?_set_self hl), (h _ _ hm).2⟩
  · rw [mu_ne _ _ hqa] at hq
    obtain ⟨j, hj⟩ := h.ix hq
    have hjk : k ≠ j := by
      intro z
      subst z
      rw [hk] at hj
      cases hj
      exact hqa rfl
    exact ⟨hP j (q, e1) (by rw [List.getElem?_set_ne hjk]; exact hj), (h _ _ hq).2⟩
theorem mw.push {D : va_G} {A : Nat → Prop} {M : Mp} {H H1 : Heap} (h : mw D A M H) {q : Nat} {e : va_E} (hP : va_P D vwCl (mL M H.size ++ [(q, e)]) H1) (hD : va_D A (mL M H.size ++ [(q, e)])) : mw D A (mu M q e) H1 ∧ M q = none := by
  have hlast : (mL M H.size ++ [(q, e)])[(mL M H.size).length]? = some (q, e) := by
    rw [List.getElem?_append_right (Nat.le_refl _), Nat.sub_self]
    rfl
  have hn : M q = none := by
    cases hm : M q with
    | none => rfl
    | some e0 =>
      obtain ⟨k, hk⟩ := h.ix hm
      have hl := (List.getElem?_eq_some_iff.mp hk).1
      have hk2 : (mL M H.size ++ [(q, e)])[k]? = some (q, e0) := by rw [List.getElem?_append_left hl]; exact hk
      have := hD.1 k _ _ _ hk2 hlast rfl
      omega
  refine ⟨fun x e1 hx => ?_, hn⟩
  by_cases hxq : x = q
  · subst hxq
    rw [mu_self] at hx
    cases hx
    exact ⟨hP _ _ hlast, hD.2 _ _ hlast⟩
  · rw [mu_ne _ _ hxq] at hx
    obtain ⟨j, hj⟩ := h.ix hx
    have hl := (List.getElem?_eq_some_iff.mp hj).1
    exact ⟨hP j (x, e1) (by rw [List.getElem?_append_left hl]; exact hj), (h _ _ hx).2⟩
theorem mw.congr {D : va_G} {A : Nat → Prop} {M M1 : Mp} {H : Heap} (h : mw D A M H) (e : M1 = M) : mw D A M1 H := by rw [e]; exact h
/-! what every method is given besides its words -/
def cxD : List MethodName := [⟨"java/lang/Exception", "<init>", "(Ljava/lang/String;)V"⟩, ⟨"java/lang/RuntimeException", "<init>", "(Ljava/lang/String;)V"⟩, ⟨"java/lang/Throwable", "<init>", "(Ljava/lang/String;)V"⟩]
def exn : Nat → String
  | 1 => "java/lang/IndexOutOfBoundsException"
  | 2 => "java/lang/IllegalArgumentException"
  | _ => "java/lang/IllegalStateException"
def cxC : List (String × String) := [(exn 1, exn 1), (exn 2, exn 2), (exn 3, exn 3), (RX1, RX1), (RX3, RX3), (RX5, RX5), (RX1, "java/lang/Object"), (RX3, "java/lang/Object"), (RX5, "java/lang/Object")]
def cxN : List (String × String) := [(exn 2, exn 1), (exn 3, exn 1), (exn 3, exn 2)]
def cxO : List String := [RX0, RX4, RX6, RX2, "java/lang/Object"]
def cxS : List (Nat × String) := [(215, "what is out of range"), (249, "rank is below 0"), (259, "no such bank"), (261, "no such kind"), (263, "no such shop"), (265, "no such card"), (267, "no such payment"), (269, "no such capture"), (271, "no such chargeback"), (273, "out of range"), (277, "not possible now")]
abbrev lsSize : MethodName := ⟨"java/util/List", "size", "()I"⟩
abbrev lsGet : MethodName := ⟨"java/util/List", "get", "(I)Ljava/lang/Object;"⟩
abbrev lsAdd : MethodName := ⟨"java/util/List", "add", "(Ljava/lang/Object;)Z"⟩
def cxT (mi : Nat) (s : State) : Prop := (∀ x ∈ cxD, va_Nw (.declares x) s) ∧ (∀ q ∈ cxC, va_Nw (.castable q.1 q.2) s) ∧ (∀ q ∈ cxN, va_Nc q.1 q.2 s) ∧ va_Nw (.methodLinkNest RX7 50 yX0_init RX7) s ∧ (∀ q ∈ cxO, va_AO q s) ∧ (∀ q ∈ cxS, ∃ sa, vk_R RX7 q.1 q.2 sa s) ∧ va_Fw RJx4a65c lsSize yJx4a65c_size_8abf5 s ∧ va_Fw RJx4a65c lsGet yJx4a65c_get_915e3 s ∧ va_Fw RJx4a65c lsAdd yJx4a65c_add_9ea2d s ∧ va_Dc s ∧ va_Mi "[Ljava/lang/Object;" mi s
def cxH (A : Nat → Prop) (e0 : Nat) (s : State) (H : Heap) : Prop := vx_Zq Bundle.tN "UNASSIGNED_STACK" Bundle.steD A s H ∧ vx_Zq Bundle.tN "SUPPRESSED_SENTINEL" Bundle.listD A s H ∧ va_Z RJx4a65c "DEFAULTCAPACITY_EMPTY_ELEMENTDATA" "[Ljava/lang/Object;" (.ref e0) A s H ∧ va_T (.object "java/lang/Object") e0 0 (fun _ => .null) A s H
def cx (A : Nat → Prop) (e0 : Nat × Nat) (s : State) : Prop := cxT e0.2 s ∧ cxH A e0.1 s s.heap
theorem cxT.warm {mi : Nat} {s U : State} (hW : s.WarmedH U.vm) (h : cxT mi s) : cxT mi U := by
  obtain ⟨h1, h2, h3, h4, h5, h6, h7, h8, h9, h10, h11⟩ := h
  refine ⟨fun x hx => (h1 x hx).warmD hW, fun q hq => (h2 q hq).warmC hW, fun q hq => (h3 q hq).moved hW.alike, h4.warmM hW, fun q hq => (h5 q hq).moved hW.alike, fun q hq => ?_, h7.moved (by decide) hW.alike, h8.moved (by decide) hW.alike, h9.moved (by decide) hW.alike, h10.moved hW.alike, h11.moved hW.alike⟩
  obtain ⟨sa, h⟩ := h6 q hq
  exact ⟨sa, h.warm hW⟩
theorem cxH.go {A : Nat → Prop} {e0 : Nat} {s U : State} {H H1 : Heap} (hvm : s.vm.Alike U.vm) (hk : ∀ q : Nat, q < H.size → ¬ A q → H1[q]? = H[q]?) (h : cxH A e0 s H) : cxH A e0 U H1 := by
  obtain ⟨h1, h2, h3, h4⟩ := h
  exact ⟨vx_Zq.moved hvm (h1.kept hk), vx_Zq.moved hvm (h2.kept hk), va_Z.moved hvm (h3.kept hk), va_T.moved hvm (h4.kept hk)⟩
theorem cx.go {A : Nat → Prop} {e0 : Nat × Nat} {s U : State} {H : Heap} {locs : List Loc} (hW : s.WarmedH U.vm) (hU : U.heap = H) (hS : va_S A s.heap H locs) (h : cx A e0 s) : cx A e0 U := ⟨h.1.warm hW, by rw [hU]; exact h.2.go hW.alike hS.2.1⟩
abbrev tyL (kc : Nat → ClassId) : List (ClassId × FieldType) := [(kc 0, .int), (kc 1, .long), (kc 2, .boolean), (kc 3, .object RX0), (kc 4, .object RX4), (kc 5, .object RX6), (kc 6, .object RX2), (kc 7, .object "java/lang/Object")]
def mX (p : Program) (s : State) (m : MethodId) (args : Array Value) (c : Code) (cc : ByteArray) (nL : Nat) (own : String) (Ts : List Cond) (D : va_G) (kc : Nat → ClassId) : Prop := CallFix p m c cc nL s args Ts own ∧ va_K D vwCl (tyL kc) s
def mY (D : va_G) (A : Nat → Prop) (M : Mp) (s : State) (H : Heap) (locs : List Loc) : Prop := mw D A M H ∧ va_S A s.heap H locs
def mG (D : va_G) (kc : Nat → ClassId) (A : Nat → Prop) (e0 : Nat × Nat) (M : Mp) (U : State) : Prop := mw D A M U.heap ∧ va_K D vwCl (tyL kc) U ∧ (∀ q, U.heap.size ≤ q → A q) ∧ cx A e0 U
abbrev mPre (D : va_G) (kc : Nat → ClassId) (A : Nat → Prop) (e0 : Nat × Nat) (M : Mp) (av : List Value) : Array Value → State → Prop := va_Pc av (mG D kc A e0 M)
abbrev mB (D : va_G) (A : Nat → Prop) : Mp → State → Prop := fun M t => mw D A M t.heap
theorem mG.blind {D : va_G} {kc : Nat → ClassId} {A : Nat → Prop} {e0 : Nat × Nat} {M : Mp} {av : List Value} : FrameBlind (mPre D kc A e0 M av) := by
  intro a U g mk q
  obtain ⟨q0, q1, q2, q3, q4⟩ := q
  refine ⟨q0, q1, va_K.moved (u := U) (U := U.calling g mk a) (Vm.Alike.refl U.vm) q2, q3, ?_, cxH.go (Vm.Alike.refl U.vm) (fun _ _ _ => rfl) q4.2⟩
  exact cxT.warm (s := U) (U := U.calling g mk a) (State.WarmedH.refl U) q4.1
theorem mG.of {p : Program} {s U : State} {m : MethodId} {args : Array Value} {c : Code} {cc : ByteArray} {nL : Nat} {own : String} {Ts : List Cond} {D : va_G} {kc : Nat → ClassId} {A : Nat → Prop} {M : Mp} {H : Heap} {locs : List Loc} {e0 : Nat × Nat} {av : List Value} (X : mX p s m args c cc nL own Ts D kc) (Y : mY D A M s H locs) (hA : ∀ q, s.heap.size ≤ q → A q) (hcx : cx A e0 s) (hU : U.heap = H) (hW : s.WarmedH U.vm) : mPre D kc A e0 M av av.toArray U :=
  ⟨rfl, by rw [hU]; exact Y.1, va_K.moved hW.alike X.2, fun q h => hA q (Nat.le_trans Y.2.1 (by rw [hU] at h; exact h)), hcx.go hW hU Y.2⟩
