section MCS
variable {p : Program} {l : Launch} {e : Env} {R : Room} {s : State} {m : MethodId} {args : Array Value} {below : List Frame} {meth : Method} {c : Code} {H : Heap} {locs : List Loc} {cells slots : Nat} {Q : State → Prop} {cc : ByteArray} {nL : Nat} {own : String} {Ts : List Cond} {D : va_G} {kc : Nat → ClassId} {A : Nat → Prop} {M : Mp} {a pc : Nat} {ls : Array Slot} {rest : List Value}
theorem m_cast (X : mX p s m args c cc nL own Ts D kc) (Y : mY D A M s H locs) {index ci N : Nat} {C : String} {T : u_T} {fs : List Value} (hl : Cond.classLink own index C ∈ Ts) (hm : M a = some (.inr (ci, fs))) (hc : vwCl[ci]? = some (C, T, N)) (hdg : decode cc pc = .ok (.checkcast index, 3))
    (kk : W p l e R s m args below meth c H locs cells slots Q (F0 m (pc + 3) ls (.ref a :: rest))) : W p l e R s m args below meth c H locs cells slots Q (F0 m pc ls (.ref a :: rest)) :=
  va_castS X.1.1 X.1.2.1 X.1.2.2.2.1 (X.1.2.2.2.2 _ hl) ((X.2.1 ci _ hc).2) (m_recv X Y hm hc) hdg kk
end MCS
theorem div3 {x : Nat} (h : x < 12) : x / 3 < 4 := by omega
theorem nI_m1 (k : Nat) : nI (k + 1) - nI 1 = nI k := by rw [pk_sub (by omega)]; rfl
theorem nI_m1' (k : Nat) : nI k + Int32.ofInt (-1) = nI k - nI 1 := by
  rw [Int32.sub_eq_add_neg]; rfl
theorem nI_m0 : nI 0 - nI 1 < 0 := by decide
abbrev noX : String × Mp → Prop := fun _ => False
abbrev noQv : Mp → Prop := fun _ => False
def exP (M : Mp) (k : Nat) : String × Mp → Prop := fun u => u = (exn k, M)
set_option maxHeartbeats 4000000 in
set_option maxRecDepth 100000 in
theorem c_rr_ok (l : Launch) (hlt : l.stackTraces = false) (D : va_G) (kc : Nat → ClassId) (A : Nat → Prop) (e0 : Nat × Nat) (M : Mp) (x lo hi : Nat) (h1 : lo ≤ x) (h2 : x ≤ hi) (h3 : hi < 2147483648) : vx_Met l yX7_requireRange wsX7_requireRange ({ frames := 6, cells := 1, slots := 6, locals := 90 }) (mPre D kc A e0 M [.int (nI x), .int (nI lo), .int (nI hi)]) (va_Qv (fun M1 => M1 = M) (mB D A) A) (mXC D A noX) 1 6 A := by
  refine vx_ofW (cc := cX7_requireRange) (maxL := 3) (ret := none) (by decide) rfl ?_
  intro p e s m args below meth c s₁ B hml htab hv
  obtain ⟨rfl, hw, hK, hA, hcx⟩ := hv
  have X : mX p s m _ c cX7_requireRange 3 RX7 wsX7_requireRange D kc := ⟨⟨B.exec, B.bytes, hml, findClass_of_methodNamed B.named, atoms_spec (ws := wsX7_requireRange) B.pre⟩, hK⟩
  have hx := B.exec
  have hb := B.bytes
  have hr := B.returns
  have hlocks := B.notSynchronized
  have Y : mY D A M s s.heap [] := ⟨hw, va_S.rf⟩
  have hl := lv_entry ([.int (nI x), .int (nI lo), .int (nI hi)]) (n := 3) (Nat.le_of_ble_eq_true rfl)
  rw [lg_entry_eq]
  generalize (lg_sl ([.int (nI x), .int (nI lo), .int (nI hi)]) ++ List.replicate (3 - (lg_sl ([.int (nI x), .int (nI lo), .int (nI hi)])).length) Slot.unset).toArray = ls at hl ⊢
  have hl : lv_has ls 3 [(0, .int (nI x)), (1, .int (nI lo)), (2, .int (nI hi))] := hl
  refine lv_iload_n hx hb dX7_requireRange_0 rfl (lv_at hl 0 rfl) ?_
  refine lv_iload_n hx hb dX7_requireRange_1 rfl (lv_at hl 1 rfl) ?_
  refine n_icmp_lt hx hb 10 (by omega) (by omega) dX7_requireRange_2 (by decide) (fun zq => absurd zq (by omega)) (fun _ => ?_)
  refine lv_iload_n hx hb dX7_requireRange_5 rfl (lv_at hl 0 rfl) ?_
  refine lv_iload_n hx hb dX7_requireRange_6 rfl (lv_at hl 2 rfl) ?_
  refine n_icmp_le hx hb 21 (by omega) (by omega) dX7_requireRange_7 (by decide) (fun _ => ?_) (fun zq => absurd zq (by omega))
  refine vx_ret (m_vret X Y hr hlocks (by decide) (by decide) ?_ dX7_requireRange_21)
  exact rfl
theorem kwX7_requireRange_1 : Cond.classLink RX7 213 "java/lang/IllegalArgumentException" ∈ wsX7_requireRange := List.mem_of_getElem? (i := 1) rfl
theorem kwX7_requireRange_2 : Cond.initialized "java/lang/IllegalArgumentException" ∈ wsX7_requireRange := List.mem_of_getElem? (i := 2) rfl
theorem htX7_requireRange_vx_atSRX7217ja1 : ∀ w ∈ (vx_atS RX7 217 "java/lang/IllegalArgumentException" ["java/lang/RuntimeException", "java/lang/Exception"]).filter goodWord, w ∈ wsX7_requireRange := fun _ h => List.mem_cons_of_mem _ (List.mem_append_right _ h)
set_option maxHeartbeats 4000000 in
set_option maxRecDepth 100000 in
theorem c_rr_bad (l : Launch) (hlt : l.stackTraces = false) (D : va_G) (kc : Nat → ClassId) (A : Nat → Prop) (e0 : Nat × Nat) (M : Mp) (v : Int32) (lo hi : Nat) (hb9 : v < nI lo ∨ nI hi < v) : vx_Met l yX7_requireRange wsX7_requireRange ({ frames := 6, cells := 1, slots := 6, locals := 90 }) (mPre D kc A e0 M [.int v, .int (nI lo), .int (nI hi)]) (va_Qv noQv (mB D A) A) (mXC D A (exP M 2)) 1 6 A := by
  refine vx_ofW (cc := cX7_requireRange) (maxL := 3) (ret := none) (by decide) rfl ?_
  intro p e s m args below meth c s₁ B hml htab hv
  obtain ⟨rfl, hw, hK, hA, hcx⟩ := hv
  have X : mX p s m _ c cX7_requireRange 3 RX7 wsX7_requireRange D kc := ⟨⟨B.exec, B.bytes, hml, findClass_of_methodNamed B.named, atoms_spec (ws := wsX7_requireRange) B.pre⟩, hK⟩
  have hx := B.exec
  have hb := B.bytes
  have hr := B.returns
  have hlocks := B.notSynchronized
  have Y : mY D A M s s.heap [] := ⟨hw, va_S.rf⟩
  have hl := lv_entry ([.int v, .int (nI lo), .int (nI hi)]) (n := 3) (Nat.le_of_ble_eq_true rfl)
  rw [lg_entry_eq]
  generalize (lg_sl ([.int v, .int (nI lo), .int (nI hi)]) ++ List.replicate (3 - (lg_sl ([.int v, .int (nI lo), .int (nI hi)])).length) Slot.unset).toArray = ls at hl ⊢
  have hl : lv_has ls 3 [(0, .int v), (1, .int (nI lo)), (2, .int (nI hi))] := hl
  refine lv_iload_n hx hb dX7_requireRange_0 rfl (lv_at hl 0 rfl) ?_
  refine lv_iload_n hx hb dX7_requireRange_1 rfl (lv_at hl 1 rfl) ?_
  refine lv_icmp_lt (tgt := 10) hx hb dX7_requireRange_2 (by decide) (fun c2 => ?_) (fun c2 => ?_)
  · exact m_throwW X Y hcx hlt htab hlocks hl.1 2 (is := 273) (text := "out of range") (by decide) th_fit.2.1 th_good2 th_ng2 (by decide) kwX7_requireRange_1 kwX7_requireRange_2 htX7_requireRange_vx_atSRX7217ja1 dX7_requireRange_10 dX7_requireRange_13 dX7_requireRange_14 dX7_requireRange_17 dX7_requireRange_20 (by decide) (Nat.le_of_ble_eq_true rfl) (by decide) (by decide) (by decide) (by decide) rfl
  · refine lv_iload_n hx hb dX7_requireRange_5 rfl (lv_at hl 0 rfl) ?_
    refine lv_iload_n hx hb dX7_requireRange_6 rfl (lv_at hl 2 rfl) ?_
    refine lv_icmp_le (tgt := 21) hx hb dX7_requireRange_7 (by decide) (fun c7 => ?_) (fun c7 => ?_)
    · refine vx_ret (m_vret X Y hr hlocks (by decide) (by decide) ?_ dX7_requireRange_21)
      rcases hb9 with hb9 | hb9; exact absurd hb9 c2; exact absurd c7 (by rw [Int32.not_le]; exact hb9)
    · exact m_throwW X Y hcx hlt htab hlocks hl.1 2 (is := 273) (text := "out of range") (by decide) th_fit.2.1 th_good2 th_ng2 (by decide) kwX7_requireRange_1 kwX7_requireRange_2 htX7_requireRange_vx_atSRX7217ja1 dX7_requireRange_10 dX7_requireRange_13 dX7_requireRange_14 dX7_requireRange_17 dX7_requireRange_20 (by decide) (Nat.le_of_ble_eq_true rfl) (by decide) (by decide) (by decide) (by decide) rfl
set_option maxHeartbeats 4000000 in
set_option maxRecDepth 100000 in
theorem c_rp_ok (l : Launch) (hlt : l.stackTraces = false) (D : va_G) (kc : Nat → ClassId) (A : Nat → Prop) (e0 : Nat × Nat) (M : Mp)  : vx_Met l yX7_requirePossible wsX7_requirePossible ({ frames := 6, cells := 1, slots := 6, locals := 90 }) (mPre D kc A e0 M [.int (nI 1)]) (va_Qv (fun M1 => M1 = M) (mB D A) A) (mXC D A noX) 1 6 A := by
  refine vx_ofW (cc := cX7_requirePossible) (maxL := 1) (ret := none) (by decide) rfl ?_
  intro p e s m args below meth c s₁ B hml htab hv
  obtain ⟨rfl, hw, hK, hA, hcx⟩ := hv
  have X : mX p s m _ c cX7_requirePossible 1 RX7 wsX7_requirePossible D kc := ⟨⟨B.exec, B.bytes, hml, findClass_of_methodNamed B.named, atoms_spec (ws := wsX7_requirePossible) B.pre⟩, hK⟩
  have hx := B.exec
  have hb := B.bytes
  have hr := B.returns
  have hlocks := B.notSynchronized
  have Y : mY D A M s s.heap [] := ⟨hw, va_S.rf⟩
  have hl := lv_entry ([.int (nI 1)]) (n := 1) (Nat.le_of_ble_eq_true rfl)
  rw [lg_entry_eq]
  generalize (lg_sl ([.int (nI 1)]) ++ List.replicate (1 - (lg_sl ([.int (nI 1)])).length) Slot.unset).toArray = ls at hl ⊢
  have hl : lv_has ls 1 [(0, .int (nI 1))] := hl
  refine lv_iload_n hx hb dX7_requirePossible_0 rfl (lv_at hl 0 rfl) ?_
  refine n_if_ne hx hb 15 (by omega) dX7_requirePossible_1 (by decide) (fun _ => ?_) (fun zq => absurd zq (by decide))
  refine vx_ret (m_vret X Y hr hlocks (by decide) (by decide) ?_ dX7_requirePossible_15)
  exact rfl
theorem kwX7_requirePossible_1 : Cond.classLink RX7 275 "java/lang/IllegalStateException" ∈ wsX7_requirePossible := List.mem_of_getElem? (i := 1) rfl
theorem kwX7_requirePossible_2 : Cond.initialized "java/lang/IllegalStateException" ∈ wsX7_requirePossible := List.mem_of_getElem? (i := 2) rfl
theorem htX7_requirePossible_vx_atSRX7279ja1 : ∀ w ∈ (vx_atS RX7 279 "java/lang/IllegalStateException" ["java/lang/RuntimeException", "java/lang/Exception"]).filter goodWord, w ∈ wsX7_requirePossible := fun _ h => List.mem_cons_of_mem _ (List.mem_append_right _ h)
set_option maxHeartbeats 4000000 in
set_option maxRecDepth 100000 in
theorem c_rp_bad (l : Launch) (hlt : l.stackTraces = false) (D : va_G) (kc : Nat → ClassId) (A : Nat → Prop) (e0 : Nat × Nat) (M : Mp)  : vx_Met l yX7_requirePossible wsX7_requirePossible ({ frames := 6, cells := 1, slots := 6, locals := 90 }) (mPre D kc A e0 M [.int (nI 0)]) (va_Qv noQv (mB D A) A) (mXC D A (exP M 3)) 1 6 A := by
  refine vx_ofW (cc := cX7_requirePossible) (maxL := 1) (ret := none) (by decide) rfl ?_
  intro p e s m args below meth c s₁ B hml htab hv
  obtain ⟨rfl, hw, hK, hA, hcx⟩ := hv
  have X : mX p s m _ c cX7_requirePossible 1 RX7 wsX7_requirePossible D kc := ⟨⟨B.exec, B.bytes, hml, findClass_of_methodNamed B.named, atoms_spec (ws := wsX7_requirePossible) B.pre⟩, hK⟩
  have hx := B.exec
  have hb := B.bytes
  have hr := B.returns
  have hlocks := B.notSynchronized
  have Y : mY D A M s s.heap [] := ⟨hw, va_S.rf⟩
  have hl := lv_entry ([.int (nI 0)]) (n := 1) (Nat.le_of_ble_eq_true rfl)
  rw [lg_entry_eq]
  generalize (lg_sl ([.int (nI 0)]) ++ List.replicate (1 - (lg_sl ([.int (nI 0)])).length) Slot.unset).toArray = ls at hl ⊢
  have hl : lv_has ls 1 [(0, .int (nI 0))] := hl
  refine lv_iload_n hx hb dX7_requirePossible_0 rfl (lv_at hl 0 rfl) ?_
  refine n_if_ne hx hb 15 (by omega) dX7_requirePossible_1 (by decide) (fun zq => absurd zq (by decide)) (fun _ => ?_)
  exact m_throwW X Y hcx hlt htab hlocks hl.1 3 (is := 277) (text := "not possible now") (by decide) th_fit.2.2.1 th_good3 th_ng3 (by decide) kwX7_requirePossible_1 kwX7_requirePossible_2 htX7_requirePossible_vx_atSRX7279ja1 dX7_requirePossible_4 dX7_requirePossible_7 dX7_requirePossible_8 dX7_requirePossible_11 dX7_requirePossible_14 (by decide) (Nat.le_of_ble_eq_true rfl) (by decide) (by decide) (by decide) (by decide) rfl
theorem kwX7_bankAt_3 : Cond.fieldLink RX7 11 "CardPort" "banks" "[LCardPort$Bank;" ∈ wsX7_bankAt := List.mem_of_getElem? (i := 3) rfl
theorem htX7_bankAt_wsX701 : ∀ w ∈ wsX70, w ∈ wsX7_bankAt := fun _ h => List.mem_cons_of_mem _ (List.mem_append_left _ (List.mem_append_right _ h))
set_option maxHeartbeats 4000000 in
set_option maxRecDepth 100000 in
theorem c_bankAt (l : Launch) (hlt : l.stackTraces = false) (D : va_G) (kc : Nat → ClassId) (A : Nat → Prop) (e0 : Nat × Nat) (M : Mp) {pr : Nat → Prop} {σ τ : Sg} {th : Int32} {o : Int64} {g : Gh} {nn : Nat} (hG : G pr kc e0 σ τ th o g M) (hwf : WF nn σ) (hpr : ∀ t, t ≤ 10 → pr t) (j : Nat) (hj : j < 4) : vx_Met l yX7_bankAt wsX7_bankAt ({ frames := 6, cells := 1, slots := 6, locals := 90 }) (mPre D kc A e0 M [.ref (g.1 7 0), .int (nI j)]) (va_Qq (fun r M1 => r = some (g.1 0 j) ∧ M1 = M) (mB D A) A) (mXC D A noX) 1 6 A := by
  refine vx_ofW (cc := cX7_bankAt) (maxL := 2) (ret := (some (.object "CardPort$Bank"))) (by decide) rfl ?_
  intro p e s m args below meth c s₁ B hml htab hv
  obtain ⟨rfl, hw, hK, hA, hcx⟩ := hv
  have X : mX p s m _ c cX7_bankAt 2 RX7 wsX7_bankAt D kc := ⟨⟨B.exec, B.bytes, hml, findClass_of_methodNamed B.named, atoms_spec (ws := wsX7_bankAt) B.pre⟩, hK⟩
  have hx := B.exec
  have hb := B.bytes
  have hr := B.returns
  have hlocks := B.notSynchronized
  have Y : mY D A M s s.heap [] := ⟨hw, va_S.rf⟩
  have hl := lv_entry ([.ref (g.1 7 0), .int (nI j)]) (n := 2) (Nat.le_of_ble_eq_true rfl)
  rw [lg_entry_eq]
  generalize (lg_sl ([.ref (g.1 7 0), .int (nI j)]) ++ List.replicate (2 - (lg_sl ([.ref (g.1 7 0), .int (nI j)])).length) Slot.unset).toArray = ls at hl ⊢
  have hl : lv_has ls 2 [(0, .ref (g.1 7 0)), (1, .int (nI j))] := hl
  have hwn := hwf.2.2.2.1
  have hwd := hwf.1
  refine lv_iload_n hx hb dX7_bankAt_0 rfl (lv_at hl 1 rfl) ?_
  refine lv_if_lt (tgt := 9) hx hb dX7_bankAt_1 (by decide) (fun zq => absurd zq (nI_pos (by omega))) (fun _ => ?_)
  refine lv_iload_n hx hb dX7_bankAt_4 rfl (lv_at hl 1 rfl) ?_
  refine n_iconst hx hb 4 dX7_bankAt_5 (by decide) ?_
  refine n_icmp_lt hx hb 20 (by omega) (by omega) dX7_bankAt_6 (by decide) (fun _ => ?_) (fun zq => absurd zq (by omega))
  refine lv_aload_n hx hb dX7_bankAt_20 rfl (lv_at hl 0 rfl) ?_
  have hg1 := hG.f7 (hpr 7 (by decide))
  refine m_get (ref := "CardPort") (C := RX7) (T := TX7) (N := 8) (ci := 8) X Y htX7_bankAt_wsX701 hg1 rfl 0 (by decide) kwX7_bankAt_3 rfl (v := .ref (g.1 8 0)) rfl dX7_bankAt_21 ?_
  refine lv_iload_n hx hb dX7_bankAt_24 rfl (lv_at hl 1 rfl) ?_
  have hg2 := hG.f8_0 (hpr 8 (by decide))
  refine m_aald X Y 3 (C := RX0) rfl hg2 (vp_in_nI hj (by decide)) (v := g.1 0 j) (by rw [nI_cl (by have := hj; omega)]; exact if_pos hj) dX7_bankAt_25 ?_
  refine vx_ret (m_aret X Y hr (Or.inl ⟨_, rfl⟩) hlocks (by decide) (by decide) (some (g.1 0 j)) ?_ dX7_bankAt_26)
  exact ⟨rfl, rfl⟩
theorem kwX7_kindAt_3 : Cond.fieldLink RX7 17 "CardPort" "kinds" "[LCardPort$Kind;" ∈ wsX7_kindAt := List.mem_of_getElem? (i := 3) rfl
theorem htX7_kindAt_wsX701 : ∀ w ∈ wsX70, w ∈ wsX7_kindAt := fun _ h => List.mem_cons_of_mem _ (List.mem_append_left _ (List.mem_append_right _ h))
set_option maxHeartbeats 4000000 in
set_option maxRecDepth 100000 in
theorem c_kindAt (l : Launch) (hlt : l.stackTraces = false) (D : va_G) (kc : Nat → ClassId) (A : Nat → Prop) (e0 : Nat × Nat) (M : Mp) {pr : Nat → Prop} {σ τ : Sg} {th : Int32} {o : Int64} {g : Gh} {nn : Nat} (hG : G pr kc e0 σ τ th o g M) (hwf : WF nn σ) (hpr : ∀ t, t ≤ 10 → pr t) (j : Nat) (hj : j < 3) : vx_Met l yX7_kindAt wsX7_kindAt ({ frames := 6, cells := 1, slots := 6, locals := 90 }) (mPre D kc A e0 M [.ref (g.1 7 0), .int (nI j)]) (va_Qq (fun r M1 => r = some (g.1 4 j) ∧ M1 = M) (mB D A) A) (mXC D A noX) 1 6 A := by
  refine vx_ofW (cc := cX7_kindAt) (maxL := 2) (ret := (some (.object "CardPort$Kind"))) (by decide) rfl ?_
  intro p e s m args below meth c s₁ B hml htab hv
  obtain ⟨rfl, hw, hK, hA, hcx⟩ := hv
  have X : mX p s m _ c cX7_kindAt 2 RX7 wsX7_kindAt D kc := ⟨⟨B.exec, B.bytes, hml, findClass_of_methodNamed B.named, atoms_spec (ws := wsX7_kindAt) B.pre⟩, hK⟩
  have hx := B.exec
  have hb := B.bytes
  have hr := B.returns
  have hlocks := B.notSynchronized
  have Y : mY D A M s s.heap [] := ⟨hw, va_S.rf⟩
  have hl := lv_entry ([.ref (g.1 7 0), .int (nI j)]) (n := 2) (Nat.le_of_ble_eq_true rfl)
  rw [lg_entry_eq]
  generalize (lg_sl ([.ref (g.1 7 0), .int (nI j)]) ++ List.replicate (2 - (lg_sl ([.ref (g.1 7 0), .int (nI j)])).length) Slot.unset).toArray = ls at hl ⊢
  have hl : lv_has ls 2 [(0, .ref (g.1 7 0)), (1, .int (nI j))] := hl
  have hwn := hwf.2.2.2.1
  have hwd := hwf.1
  refine lv_iload_n hx hb dX7_kindAt_0 rfl (lv_at hl 1 rfl) ?_
  refine lv_if_lt (tgt := 9) hx hb dX7_kindAt_1 (by decide) (fun zq => absurd zq (nI_pos (by omega))) (fun _ => ?_)
  refine lv_iload_n hx hb dX7_kindAt_4 rfl (lv_at hl 1 rfl) ?_
  refine n_iconst hx hb 3 dX7_kindAt_5 (by decide) ?_
  refine n_icmp_lt hx hb 20 (by omega) (by omega) dX7_kindAt_6 (by decide) (fun _ => ?_) (fun zq => absurd zq (by omega))
  refine lv_aload_n hx hb dX7_kindAt_20 rfl (lv_at hl 0 rfl) ?_
  have hg1 := hG.f7 (hpr 7 (by decide))
  refine m_get (ref := "CardPort") (C := RX7) (T := TX7) (N := 8) (ci := 8) X Y htX7_kindAt_wsX701 hg1 rfl 1 (by decide) kwX7_kindAt_3 rfl (v := .ref (g.1 8 1)) rfl dX7_kindAt_21 ?_
  refine lv_iload_n hx hb dX7_kindAt_24 rfl (lv_at hl 1 rfl) ?_
  have hg2 := hG.f8_1 (hpr 8 (by decide))
  refine m_aald X Y 4 (C := RX4) rfl hg2 (vp_in_nI hj (by decide)) (v := g.1 4 j) (by rw [nI_cl (by have := hj; omega)]; exact if_pos hj) dX7_kindAt_25 ?_
  refine vx_ret (m_aret X Y hr (Or.inl ⟨_, rfl⟩) hlocks (by decide) (by decide) (some (g.1 4 j)) ?_ dX7_kindAt_26)
  exact ⟨rfl, rfl⟩
theorem kwX7_shopAt_3 : Cond.fieldLink RX7 23 "CardPort" "shops" "[LCardPort$Shop;" ∈ wsX7_shopAt := List.mem_of_getElem? (i := 3) rfl
theorem htX7_shopAt_wsX701 : ∀ w ∈ wsX70, w ∈ wsX7_shopAt := fun _ h => List.mem_cons_of_mem _ (List.mem_append_left _ (List.mem_append_right _ h))
set_option maxHeartbeats 4000000 in
set_option maxRecDepth 100000 in
theorem c_shopAt (l : Launch) (hlt : l.stackTraces = false) (D : va_G) (kc : Nat → ClassId) (A : Nat → Prop) (e0 : Nat × Nat) (M : Mp) {pr : Nat → Prop} {σ τ : Sg} {th : Int32} {o : Int64} {g : Gh} {nn : Nat} (hG : G pr kc e0 σ τ th o g M) (hwf : WF nn σ) (hpr : ∀ t, t ≤ 10 → pr t) (j : Nat) (hj : j < 8) : vx_Met l yX7_shopAt wsX7_shopAt ({ frames := 6, cells := 1, slots := 6, locals := 90 }) (mPre D kc A e0 M [.ref (g.1 7 0), .int (nI j)]) (va_Qq (fun r M1 => r = some (g.1 6 j) ∧ M1 = M) (mB D A) A) (mXC D A noX) 1 6 A := by
  refine vx_ofW (cc := cX7_shopAt) (maxL := 2) (ret := (some (.object "CardPort$Shop"))) (by decide) rfl ?_
  intro p e s m args below meth c s₁ B hml htab hv
  obtain ⟨rfl, hw, hK, hA, hcx⟩ := hv
  have X : mX p s m _ c cX7_shopAt 2 RX7 wsX7_shopAt D kc := ⟨⟨B.exec, B.bytes, hml, findClass_of_methodNamed B.named, atoms_spec (ws := wsX7_shopAt) B.pre⟩, hK⟩
  have hx := B.exec
  have hb := B.bytes
  have hr := B.returns
  have hlocks := B.notSynchronized
  have Y : mY D A M s s.heap [] := ⟨hw, va_S.rf⟩
  have hl := lv_entry ([.ref (g.1 7 0), .int (nI j)]) (n := 2) (Nat.le_of_ble_eq_true rfl)
  rw [lg_entry_eq]
  generalize (lg_sl ([.ref (g.1 7 0), .int (nI j)]) ++ List.replicate (2 - (lg_sl ([.ref (g.1 7 0), .int (nI j)])).length) Slot.unset).toArray = ls at hl ⊢
  have hl : lv_has ls 2 [(0, .ref (g.1 7 0)), (1, .int (nI j))] := hl
  have hwn := hwf.2.2.2.1
  have hwd := hwf.1
  refine lv_iload_n hx hb dX7_shopAt_0 rfl (lv_at hl 1 rfl) ?_
  refine lv_if_lt (tgt := 10) hx hb dX7_shopAt_1 (by decide) (fun zq => absurd zq (nI_pos (by omega))) (fun _ => ?_)
  refine lv_iload_n hx hb dX7_shopAt_4 rfl (lv_at hl 1 rfl) ?_
  refine n_bipush hx hb 8 dX7_shopAt_5 (by decide) ?_
  refine n_icmp_lt hx hb 21 (by omega) (by omega) dX7_shopAt_7 (by decide) (fun _ => ?_) (fun zq => absurd zq (by omega))
  refine lv_aload_n hx hb dX7_shopAt_21 rfl (lv_at hl 0 rfl) ?_
  have hg1 := hG.f7 (hpr 7 (by decide))
  refine m_get (ref := "CardPort") (C := RX7) (T := TX7) (N := 8) (ci := 8) X Y htX7_shopAt_wsX701 hg1 rfl 2 (by decide) kwX7_shopAt_3 rfl (v := .ref (g.1 8 2)) rfl dX7_shopAt_22 ?_
  refine lv_iload_n hx hb dX7_shopAt_25 rfl (lv_at hl 1 rfl) ?_
  have hg2 := hG.f8_2 (hpr 8 (by decide))
  refine m_aald X Y 5 (C := RX6) rfl hg2 (vp_in_nI hj (by decide)) (v := g.1 6 j) (by rw [nI_cl (by have := hj; omega)]; exact if_pos hj) dX7_shopAt_26 ?_
  refine vx_ret (m_aret X Y hr (Or.inl ⟨_, rfl⟩) hlocks (by decide) (by decide) (some (g.1 6 j)) ?_ dX7_shopAt_27)
  exact ⟨rfl, rfl⟩
theorem kwX7_cardAt_3 : Cond.fieldLink RX7 29 "CardPort" "cards" "[LCardPort$Card;" ∈ wsX7_cardAt := List.mem_of_getElem? (i := 3) rfl
theorem htX7_cardAt_wsX701 : ∀ w ∈ wsX70, w ∈ wsX7_cardAt := fun _ h => List.mem_cons_of_mem _ (List.mem_append_left _ (List.mem_append_right _ h))
set_option maxHeartbeats 4000000 in
set_option maxRecDepth 100000 in
theorem c_cardAt (l : Launch) (hlt : l.stackTraces = false) (D : va_G) (kc : Nat → ClassId) (A : Nat → Prop) (e0 : Nat × Nat) (M : Mp) {pr : Nat → Prop} {σ τ : Sg} {th : Int32} {o : Int64} {g : Gh} {nn : Nat} (hG : G pr kc e0 σ τ th o g M) (hwf : WF nn σ) (hpr : ∀ t, t ≤ 10 → pr t) (j : Nat) (hj : j < 12) : vx_Met l yX7_cardAt wsX7_cardAt ({ frames := 6, cells := 1, slots := 6, locals := 90 }) (mPre D kc A e0 M [.ref (g.1 7 0), .int (nI j)]) (va_Qq (fun r M1 => r = some (g.1 2 j) ∧ M1 = M) (mB D A) A) (mXC D A noX) 1 6 A := by
  refine vx_ofW (cc := cX7_cardAt) (maxL := 2) (ret := (some (.object "CardPort$Card"))) (by decide) rfl ?_
  intro p e s m args below meth c s₁ B hml htab hv
  obtain ⟨rfl, hw, hK, hA, hcx⟩ := hv
  have X : mX p s m _ c cX7_cardAt 2 RX7 wsX7_cardAt D kc := ⟨⟨B.exec, B.bytes, hml, findClass_of_methodNamed B.named, atoms_spec (ws := wsX7_cardAt) B.pre⟩, hK⟩
  have hx := B.exec
  have hb := B.bytes
  have hr := B.returns
  have hlocks := B.notSynchronized
  have Y : mY D A M s s.heap [] := ⟨hw, va_S.rf⟩
  have hl := lv_entry ([.ref (g.1 7 0), .int (nI j)]) (n := 2) (Nat.le_of_ble_eq_true rfl)
  rw [lg_entry_eq]
  generalize (lg_sl ([.ref (g.1 7 0), .int (nI j)]) ++ List.replicate (2 - (lg_sl ([.ref (g.1 7 0), .int (nI j)])).length) Slot.unset).toArray = ls at hl ⊢
  have hl : lv_has ls 2 [(0, .ref (g.1 7 0)), (1, .int (nI j))] := hl
  have hwn := hwf.2.2.2.1
  have hwd := hwf.1
  refine lv_iload_n hx hb dX7_cardAt_0 rfl (lv_at hl 1 rfl) ?_
  refine lv_if_lt (tgt := 10) hx hb dX7_cardAt_1 (by decide) (fun zq => absurd zq (nI_pos (by omega))) (fun _ => ?_)
  refine lv_iload_n hx hb dX7_cardAt_4 rfl (lv_at hl 1 rfl) ?_
  refine n_bipush hx hb 12 dX7_cardAt_5 (by decide) ?_
  refine n_icmp_lt hx hb 21 (by omega) (by omega) dX7_cardAt_7 (by decide) (fun _ => ?_) (fun zq => absurd zq (by omega))
  refine lv_aload_n hx hb dX7_cardAt_21 rfl (lv_at hl 0 rfl) ?_
  have hg1 := hG.f7 (hpr 7 (by decide))
  refine m_get (ref := "CardPort") (C := RX7) (T := TX7) (N := 8) (ci := 8) X Y htX7_cardAt_wsX701 hg1 rfl 3 (by decide) kwX7_cardAt_3 rfl (v := .ref (g.1 8 3)) rfl dX7_cardAt_22 ?_
  refine lv_iload_n hx hb dX7_cardAt_25 rfl (lv_at hl 1 rfl) ?_
  have hg2 := hG.f8_3 (hpr 8 (by decide))
  refine m_aald X Y 6 (C := RX2) rfl hg2 (vp_in_nI hj (by decide)) (v := g.1 2 j) (by rw [nI_cl (by have := hj; omega)]; exact if_pos hj) dX7_cardAt_26 ?_
  refine vx_ret (m_aret X Y hr (Or.inl ⟨_, rfl⟩) hlocks (by decide) (by decide) (some (g.1 2 j)) ?_ dX7_cardAt_27)
  exact ⟨rfl, rfl⟩
