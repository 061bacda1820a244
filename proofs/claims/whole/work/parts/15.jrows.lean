section MJR
variable {p : Program} {l : Launch} {e : Env} {R : Room} {s : State} {m : MethodId} {args : Array Value} {below : List Frame} {meth : Method} {c : Code} {H : Heap} {locs : List Loc} {cells slots : Nat} {Q : State → Prop} {cc : ByteArray} {nL : Nat} {own : String} {Ts : List Cond} {D : va_G} {kc : Nat → ClassId} {A : Nat → Prop} {M : Mp} {a pc : Nat} {ls : Array Slot} {rest : List Value} {e0 : Nat × Nat}
theorem nI_cl {n : Nat} (h : n < 2147483648) : (nI n).toNatClampNeg = n := nI_clamp h
theorem m_alen (X : mX p s m args c cc nL own Ts D kc) (Y : mY D A M s H locs) {n : Nat} {f : Nat → Option Nat} (hm : M a = some (qrow (kc 7) n f)) (hdg : decode cc pc = .ok (.arraylength, 1))
    (kk : W p l e R s m args below meth c H locs cells slots Q (F0 m (pc + 1) ls (.int (nI n) :: rest))) : W p l e R s m args below meth c H locs cells slots Q (F0 m pc ls (.ref a :: rest)) :=
  va_alen X.1.1 X.1.2.1 X.2 (Y.1.one hm) 0 7 rfl rfl (v := nI n) rfl hdg kk
theorem m_alenT (X : mX p s m args c cc nL own Ts D kc) (Y : mY D A M s H locs) (hcx : cx A e0 s) (hdg : decode cc pc = .ok (.arraylength, 1))
    (kk : W p l e R s m args below meth c H locs cells slots Q (F0 m (pc + 1) ls (.int (nI 0) :: rest))) : W p l e R s m args below meth c H locs cells slots Q (F0 m pc ls (.ref e0.1 :: rest)) :=
  va_tlen X.1.1 X.1.2.1 hcx.2.2.2.2 Y.2 (v := nI 0) rfl hdg kk
theorem m_gets (X : mX p s m args c cc nL own Ts D kc) (Y : mY D A M s H locs) (hcx : cx A e0 s) {index : Nat} (hl : Cond.fieldLink own index "java/util/ArrayList" "DEFAULTCAPACITY_EMPTY_ELEMENTDATA" "[Ljava/lang/Object;" ∈ Ts) (hdg : decode cc pc = .ok (.getstatic index, 3))
    (kk : W p l e R s m args below meth c H locs cells slots Q (F0 m (pc + 3) ls (.ref e0.1 :: rest))) : W p l e R s m args below meth c H locs cells slots Q (F0 m pc ls rest) :=
  va_gets X.1.1 X.1.2.1 hcx.2.2.2.1 Y.2 X.1.2.2.2.1 (X.1.2.2.2.2 _ hl) (fun _ h => h) hdg kk
theorem n_shr1 {n : Nat} (h : n < 2147483648) : nI n >>> (nI 1 &&& 31) = nI (n / 2) := by
  have k := pk_shrN (n := n) h (nI 1 &&& 31) 1 (by decide)
  rw [Nat.pow_one] at k
  exact k
theorem m_copyq (X : mX p s m args c cc nL own Ts D kc) (Y : mY D A M s H locs) (hls : ls.size = nL) {index : Nat} (k1 : Cond.methodLink own index arraycopyName ∈ Ts) (k2 : Cond.native arraycopyName ∈ Ts) (k3 : Cond.static arraycopyName ∈ Ts) (k4 : Cond.initialized "java/lang/System" ∈ Ts) {a0 n0 n1 ci N k : Nat} {f g : Nat → Option Nat} {C : String} {T : u_T} (hm0 : M a0 = some (qrow (kc 7) n0 f)) (hm1 : M a = some (qrow (kc 7) n1 g)) (hc : vwCl[ci]? = some (C, T, N)) (hca : va_Nw (.castable C "java/lang/Object") s) (hk0 : k ≤ n0) (hk1 : k ≤ n1) (hk : k < 2147483648) (hel : ∀ j, j < k → ∃ y vs, f j = some y ∧ M y = some (.inr (ci, vs)))
    (hframes : 1 ≤ R.frames) (hlocals : (rest.map fun v => v.category).sum + (nativeFrameWords "java/lang/System" "arraycopy" 5 + 11) ≤ R.locals) (hdg : decode cc pc = .ok (.invokestatic index, 3))
    (kk : ∀ (H1 : Heap) (locs1 : List Loc), mY D A (mu M a (qrow (kc 7) n1 (va_cpy f g 0 0 k))) s H1 locs1 → W p l e R s m args below meth c H1 locs1 cells slots Q (F0 m (pc + 3) ls rest)) : W p l e R s m args below meth c H locs cells slots Q (F0 m pc ls (.int (nI k) :: .int (nI 0) :: .ref a :: .int (nI 0) :: .ref a0 :: rest)) := by
  obtain ⟨i0, hi0⟩ := Y.1.ix hm0
  obtain ⟨i1, hi1⟩ := Y.1.ix hm1
  have z0 : (nI 0).toNatClampNeg = 0 := nI_cl (by decide)
  have zk : (nI k).toNatClampNeg = k := nI_cl hk
  refine va_copyq (E0 := "java/lang/Object") (E1 := "java/lang/Object") (C := C) X.1.1 X.1.2.1 (X.1.2.2.1.trans hls.symm) X.1.2.2.2.1 (X.1.2.2.2.2 _ k1) (X.1.2.2.2.2 _ k2) (X.1.2.2.2.2 _ k3) (X.1.2.2.2.2 _ k4) X.2 Y.1.P Y.1.Ds Y.2 i0 i1 7 7 hi0 hi1 rfl rfl (nI_pos (by decide)) (nI_pos (by decide)) (nI_pos hk) (by rw [z0, zk]; omega) (by rw [z0, zk]; omega) ?_ ?_ hframes hlocals hdg (fun H1 locs1 hP _ hS => kk H1 locs1 ⟨?_, hS⟩)
  · intro i hi y hy
    rw [zk] at hi
    rw [z0, Nat.zero_add] at hy
    obtain ⟨y2, vs, h1, h2⟩ := hel i hi
    rw [hy] at h1
    cases h1
    exact m_recv X Y h2 hc
  · intro comp c0 h1 h2
    obtain ⟨c1, c2, f1, f2, f3⟩ := Cond.castable_spec (va_Nw.use (A := args) rfl hca)
    cases h1.symm.trans f2
    cases h2.symm.trans f1
    exact f3
  · rw [z0, zk] at hP
    exact Y.1.back hi1 hP
theorem m_getC (X : mX p s m args c cc nL own Ts D kc) (Y : mY D A M s H locs) (hcx : cx A e0 s) (hls : ls.size = nL) {index n : Nat} {f : Nat → Option Nat} (k1 : Cond.methodLink own index ⟨"java/lang/Object", "getClass", "()Ljava/lang/Class;"⟩ ∈ Ts) (k2 : Cond.selects "[Ljava/lang/Object;" ⟨"java/lang/Object", "getClass", "()Ljava/lang/Class;"⟩ ⟨"java/lang/Object", "getClass", "()Ljava/lang/Class;"⟩ ∈ Ts) (k3 : Cond.instanceMethod ⟨"java/lang/Object", "getClass", "()Ljava/lang/Class;"⟩ ∈ Ts) (k4 : Cond.native ⟨"java/lang/Object", "getClass", "()Ljava/lang/Class;"⟩ ∈ Ts) (hm : M a = some (qrow (kc 7) n f)) (hframes : 1 ≤ R.frames) (hlocals : (rest.map fun v => v.category).sum + 14 ≤ R.locals) (hdg : decode cc pc = .ok (.invokevirtual index, 3))
    (kk : W p l e R s m args below meth c H locs cells slots Q (F0 m (pc + 3) ls (.ref e0.2 :: rest))) : W p l e R s m args below meth c H locs cells slots Q (F0 m pc ls (.ref a :: rest)) := by
  have hcl : s.vm.findClass "[Ljava/lang/Object;" = some (kc 7) := va_nmO ((X.2.2 7 _ rfl).2) (by decide +kernel)
  exact va_getC (C := "[Ljava/lang/Object;") X.1.1 X.1.2.1 (X.1.2.2.1.trans hls.symm) X.1.2.2.2.1 (X.1.2.2.2.2 _ k1) hcx.1.2.2.2.2.2.2.2.2.2.1.use (X.1.2.2.2.2 _ k2) (X.1.2.2.2.2 _ k3) (X.1.2.2.2.2 _ k4) hcx.1.2.2.2.2.2.2.2.2.2.2 ⟨_, (Y.1.one hm) 0 _ rfl, rfl, hcl⟩ hframes hlocals hdg kk
theorem m_ldcM (X : mX p s m args c cc nL own Ts D kc) (hcx : cx A e0 s) {index : Nat} (k1 : Cond.classLink own index "[Ljava/lang/Object;" ∈ Ts) (hdg : decode cc pc = .ok (.ldc index, 2))
    (kk : W p l e R s m args below meth c H locs cells slots Q (F0 m (pc + 2) ls (.ref e0.2 :: rest))) : W p l e R s m args below meth c H locs cells slots Q (F0 m pc ls rest) :=
  va_ldcM X.1.1 X.1.2.1 X.1.2.2.2.1 (X.1.2.2.2.2 _ k1) hcx.1.2.2.2.2.2.2.2.2.2.2 hdg kk
end MJR
theorem mu_lal {M : Mp} {L r : Nat} {x y z : va_E} (h : L ≠ r) : mu (mu (mu M L x) r y) L z = mu (mu M r y) L z := by
  funext q
  by_cases h1 : q = L
  · subst h1; rw [mu_self, mu_self]
  · rw [mu_ne _ _ h1, mu_ne _ _ h1]
    by_cases h2 : q = r
    · subst h2; rw [mu_self, mu_self]
    · rw [mu_ne _ _ h2, mu_ne _ _ h2, mu_ne _ _ h1]
