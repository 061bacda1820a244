abbrev thN : List String := ["java/lang/RuntimeException", "java/lang/Exception"]
def thK : Nat → Nat
  | 1 => 247
  | 2 => 213
  | _ => 275
def thC : Nat → Nat
  | 1 => 251
  | 2 => 217
  | _ => 279
def cxNG (k : Nat) : List Cond := [.castable (exn k) (exn k), .declares ⟨"java/lang/RuntimeException", "<init>", "(Ljava/lang/String;)V"⟩, .declares ⟨"java/lang/Exception", "<init>", "(Ljava/lang/String;)V"⟩, .declares ⟨"java/lang/Throwable", "<init>", "(Ljava/lang/String;)V"⟩]
set_option maxRecDepth 20000 in
theorem th_good1 : ∀ w ∈ Cond.classLink RX7 (thK 1) (exn 1) :: Cond.initialized (exn 1) :: vx_atS RX7 (thC 1) (exn 1) thN, vx_ot w = true := by decide +kernel
set_option maxRecDepth 20000 in
theorem th_good2 : ∀ w ∈ Cond.classLink RX7 (thK 2) (exn 2) :: Cond.initialized (exn 2) :: vx_atS RX7 (thC 2) (exn 2) thN, vx_ot w = true := by decide +kernel
set_option maxRecDepth 20000 in
theorem th_good3 : ∀ w ∈ Cond.classLink RX7 (thK 3) (exn 3) :: Cond.initialized (exn 3) :: vx_atS RX7 (thC 3) (exn 3) thN, vx_ot w = true := by decide +kernel
set_option maxRecDepth 20000 in
theorem th_ng1 : ∀ w ∈ (vx_atS RX7 (thC 1) (exn 1) thN).filter (fun w => !goodWord w), w ∈ cxNG 1 := by decide +kernel
set_option maxRecDepth 20000 in
theorem th_ng2 : ∀ w ∈ (vx_atS RX7 (thC 2) (exn 2) thN).filter (fun w => !goodWord w), w ∈ cxNG 2 := by decide +kernel
set_option maxRecDepth 20000 in
theorem th_ng3 : ∀ w ∈ (vx_atS RX7 (thC 3) (exn 3) thN).filter (fun w => !goodWord w), w ∈ cxNG 3 := by decide +kernel
theorem th_fit : Bundle.fit (exn 1) = true ∧ Bundle.fit (exn 2) = true ∧ Bundle.fit (exn 3) = true ∧ ∀ n ∈ thN, Bundle.fit n = true := by decide +kernel
theorem cxNG_ok {mi : Nat} {s : State} {args : Array Value} (h : cxT mi s) (k : Nat) (hk : (exn k, exn k) ∈ cxC) : ∀ w ∈ cxNG k, w.before args s = true := by
  obtain ⟨h1, h2, -⟩ := h
  exact vx_c ((h2 _ hk).use rfl) (vx_c ((h1 _ (by decide)).use rfl) (vx_c ((h1 _ (by decide)).use rfl) (vx_c ((h1 _ (by decide)).use rfl) vx_n)))
section MTH
variable {p : Program} {l : Launch} {e : Env} {R : Room} {s : State} {m : MethodId} {args : Array Value} {below : List Frame} {meth : Method} {c : Code} {H : Heap} {locs : List Loc} {cells slots : Nat} {cc : ByteArray} {nL : Nat} {Ts : List Cond} {D : va_G} {kc : Nat → ClassId} {A : Nat → Prop} {M : Mp} {pc : Nat} {ls : Array Slot} {rest : List Value} {e0 : Nat × Nat} {Qc : Array Value → State → Outcome → State → Prop} {px : String × Mp → Prop} {mcO msO : Nat}
theorem m_thx {k : Nat} (Y : mY D A M s H locs) (hpx : px (exn k, M)) : ∀ t : State, s.vm.Alike t.vm → H.size ≤ t.heap.size → (∀ q : Nat, q < H.size → t.heap[q]? = H[q]?) → mXC D A px (exn k) s t := by
  intro t hvm hz hq
  refine ⟨(exn k, M), hpx, ⟨rfl, fun a e hm => ⟨(Y.1 a e hm).1.kept (hq a (Y.1.lt hm)), (Y.1 a e hm).2⟩⟩, Nat.le_trans Y.2.1 hz, fun q h1 h2 => ?_⟩
  rw [hq q (Nat.lt_of_lt_of_le h1 Y.2.1)]
  exact Y.2.2.1 q h1 h2
theorem m_throw (X : mX p s m args c cc nL RX7 Ts D kc) (Y : mY D A M s H locs) (hcx : cx A e0 s) (hlt : l.stackTraces = false) (htab : ∀ x ∈ c.exceptionTable.toList, False) (hlocks : meth.locks = false) (hls : ls.size = nL) (k : Nat) {is : Nat} {text : String} (hstr : (is, text) ∈ cxS) (hfit : Bundle.fit (exn k) = true) (hgood : ∀ w ∈ Cond.classLink RX7 (thK k) (exn k) :: Cond.initialized (exn k) :: vx_atS RX7 (thC k) (exn k) thN, vx_ot w = true) (hng : ∀ w ∈ (vx_atS RX7 (thC k) (exn k) thN).filter (fun w => !goodWord w), w ∈ cxNG k) (hkc : (exn k, exn k) ∈ cxC)
    (hk : Cond.classLink RX7 (thK k) (exn k) ∈ Ts) (hini : Cond.initialized (exn k) ∈ Ts) (hat : ∀ w ∈ (vx_atS RX7 (thC k) (exn k) thN).filter goodWord, w ∈ Ts)
    (d0 : decode cc pc = .ok (.new (thK k), 3)) (d3 : decode cc (pc + 3) = .ok (.dup, 1)) (d4 : decode cc (pc + 4) = .ok (.ldc is, 2)) (d6 : decode cc (pc + 6) = .ok (.invokespecial (thC k), 3)) (d9 : decode cc (pc + 9) = .ok (.athrow, 1))
    (hRf : 5 < R.frames) (hRl : (rest.map fun v => v.category).sum + 82 ≤ R.locals) (hRc : cells + 1 ≤ R.cells) (hRs : slots + 6 ≤ R.slots) (hc : cells + 1 ≤ mcO) (hs : slots + 6 ≤ msO) (hpx : px (exn k, M)) :
    W p l e R s m args below meth c H locs cells slots (vx_MQ below Qc (mXC D A px) args s mcO msO A) (F0 m pc ls rest) := by
  obtain ⟨sa, hsa⟩ := hcx.1.2.2.2.2.2.1 _ hstr
  exact vx_throwS X.1.1 X.1.2.1 hlt X.1.2.2.2.1 hfit th_fit.2.2.2 (X.1.2.2.2.2 _ hk) (X.1.2.2.2.2 _ hini) hsa (vx_hat (fun w hw => X.1.2.2.2.2 w (hat w hw)) hng (cxNG_ok hcx.1 k hkc)) hgood hcx.2.1 hcx.2.2.1 Y.2 (hls.trans X.1.2.2.1.symm) d0 d3 d4 d6 d9 (fun x hx => absurd (htab x hx) id) hRf hRl hRc hRs hlocks (m_thx Y hpx) Y.2.2.2 hc hs
theorem m_throwW (X : mX p s m args c cc nL RX7 Ts D kc) (Y : mY D A M s H locs) (hcx : cx A e0 s) (hlt : l.stackTraces = false) (htab : ∀ x ∈ c.exceptionTable.toList, False) (hlocks : meth.locks = false) (hls : ls.size = nL) (k : Nat) {is : Nat} {text : String} (hstr : (is, text) ∈ cxS) (hfit : Bundle.fit (exn k) = true) (hgood : ∀ w ∈ Cond.classLink RX7 (thK k) (exn k) :: Cond.initialized (exn k) :: vx_atS RX7 (thC k) (exn k) thN, vx_ot w = true) (hng : ∀ w ∈ (vx_atS RX7 (thC k) (exn k) thN).filter (fun w => !goodWord w), w ∈ cxNG k) (hkc : (exn k, exn k) ∈ cxC)
    (hk : Cond.classLink RX7 (thK k) (exn k) ∈ Ts) (hini : Cond.initialized (exn k) ∈ Ts) (hat : ∀ w ∈ (vx_atS RX7 (thC k) (exn k) thN).filter goodWord, w ∈ Ts)
    (d0 : decode cc pc = .ok (.new (thK k), 3)) (d3 : decode cc (pc + 3) = .ok (.dup, 1)) (d4 : decode cc (pc + 4) = .ok (.ldc_w is, 3)) (d7 : decode cc (pc + 7) = .ok (.invokespecial (thC k), 3)) (d10 : decode cc (pc + 10) = .ok (.athrow, 1))
    (hRf : 5 < R.frames) (hRl : (rest.map fun v => v.category).sum + 82 ≤ R.locals) (hRc : cells + 1 ≤ R.cells) (hRs : slots + 6 ≤ R.slots) (hc : cells + 1 ≤ mcO) (hs : slots + 6 ≤ msO) (hpx : px (exn k, M)) :
    W p l e R s m args below meth c H locs cells slots (vx_MQ below Qc (mXC D A px) args s mcO msO A) (F0 m pc ls rest) := by
  obtain ⟨sa, hsa⟩ := hcx.1.2.2.2.2.2.1 _ hstr
  exact vx_throwSW X.1.1 X.1.2.1 hlt X.1.2.2.2.1 hfit th_fit.2.2.2 (X.1.2.2.2.2 _ hk) (X.1.2.2.2.2 _ hini) hsa (vx_hat (fun w hw => X.1.2.2.2.2 w (hat w hw)) hng (cxNG_ok hcx.1 k hkc)) hgood hcx.2.1 hcx.2.2.1 Y.2 (hls.trans X.1.2.2.1.symm) d0 d3 d4 d7 d10 (fun x hx => absurd (htab x hx) id) hRf hRl hRc hRs hlocks (m_thx Y hpx) Y.2.2.2 hc hs
end MTH
