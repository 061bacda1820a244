section MCS
variable {p : Program} {l : Launch} {e : Env} {R : Room} {s : State} {m : MethodId} {args : Array Value} {below : List Frame} {meth : Method} {c : Code} {H : Heap} {locs : List Loc} {cells slots : Nat} {Q : State → Prop} {cc : ByteArray} {nL : Nat} {own : String} {Ts : List Cond} {D : va_G} {kc : Nat → ClassId} {A : Nat → Prop} {M : Mp} {a pc : Nat} {ls : Array Slot} {rest : List Value}
theorem m_cast (X : mX p s m args c cc nL own Ts D kc) (Y : mY D A M s H locs) {index ci N : Nat} {C : String} {T : u_T} {fs : List Value} (hl : Cond.classLink own index C ∈ Ts) (hm : M a = some (.inr (ci, fs))) (hc : vwCl[ci]? = some (C, T, N)) (hdg : decode cc pc = .ok (.checkcast index, 3))
    (kk : W p l e R s m args below meth c H locs cells slots Q (F0 m (pc + 3) ls (.ref a :: rest))) : W p l e R s m args below meth c H locs cells slots Q (F0 m pc ls (.ref a :: rest)) :=
  va_castS X.1.1 X.1.2.1 X.1.2.2.2.1 (X.1.2.2.2.2 _ hl) ((X.2.1 ci _ hc).2) (m_recv X Y hm hc) hdg kk
end MCS
theorem div3 {x : Nat} (h : x < 12) : x / 3 < 4 := by omega
theorem nI_m1 (k : Nat) : nI (k + 1) - nI 1 = nI k := by rw [pk_sub (by omega)]; rfl
theorem nI_m1' (k : Nat) : nI k + Int32.ofInt (-1) = nI k - nI 1 := by
  rw [Int32.sub_eq_add_neg]; rfl
theorem nI_m0 : nI 0 - nI 1 < 0 := by decide
abbrev noX : String × Mp → Prop := fun _ => False
abbrev noQv : Mp → Prop := fun _ => False
abbrev noQq : Option Nat → Mp → Prop := fun _ _ => False
theorem bad2 {v N : Int32} (h : v < 0 ∨ N ≤ v) (h1 : ¬ v < 0) (h2 : v < N) : False := by
  rcases h with h | h
  · exact h1 h
  · rw [Int32.le_iff_toInt_le] at h; rw [Int32.lt_iff_toInt_lt] at h2; omega
def exP (M : Mp) (k : Nat) : String × Mp → Prop := fun u => u = (exn k, M)
set_option maxHeartbeats 4000000 in
set_option maxRecDepth 100000 in
theorem c_rr_ok (l : Launch) (hlt : l.stackTraces = false) (D : va_G) (kc : Nat → ClassId) (A : Nat → Prop) (e0 : Nat × Nat) (M : Mp) (x lo hi : Nat) (h1 : lo ≤ x) (h2 : x ≤ hi) (h3 : hi < 2147483648) : vx_Met l yX7_requireRange wsX7_requireRange ({ frames := 6, cells := 1, slots := 6, locals := 90 }) (mPre D kc A e0 M [.int (nI x), .int (nI lo), .int (nI hi)]) (va_Qv (fun M1 => M1 = M) (mB D A) A) (mXC D A noX) 1 6 A := by
  refine vx_ofW (cc := cX7_requireRange) (maxL := 3) (ret := none) (by decide) rfl ?_
  intro p e s m args below meth c s₁ B hml htab hv
  obtain ⟨rfl, hw, hK, hA, hcx⟩ := hv
  have X : mX p s m _ c cX7_requireRange 3 RX7 wsX7_requireRange D kc := ⟨⟨B.exec, B.bytes, hml, findClass_of_methodNamed B.named, atoms_spec (ws := wsX7_requireRange) B.pre⟩, hK⟩
  have hx := B.exec
  have hb := B.bytes
  have hr := B.returns
  have hlocks := B.notSynchronized
  have Y : mY D A M s s.heap [] := ⟨hw, va_S.rf⟩
  have hl := lv_entry ([.int (nI x), .int (nI lo), .int (nI hi)]) (n := 3) (Nat.le_of_ble_eq_true rfl)
  rw [lg_entry_eq]
  generalize (lg_sl ([.int (nI x), .int (nI lo), .int (nI hi)]) ++ List.replicate (3 - (lg_sl ([.int (nI x), .int (nI lo), .int (nI hi)])).length) Slot.unset).toArray = ls at hl ⊢
  have hl : lv_has ls 3 [(0, .int (nI x)), (1, .int (nI lo)), (2, .int (nI hi))] := hl
  refine lv_iload_n hx hb dX7_requireRange_0 rfl (lv_at hl 0 rfl) ?_
  refine lv_iload_n hx hb dX7_requireRange_1 rfl (lv_at hl 1 rfl) ?_
  refine n_icmp_lt hx hb 10 (by omega) (by omega) dX7_requireRange_2 (by decide) (fun zq => absurd zq (by omega)) (fun _ => ?_)
  refine lv_iload_n hx hb dX7_requireRange_5 rfl (lv_at hl 0 rfl) ?_
  refine lv_iload_n hx hb dX7_requireRange_6 rfl (lv_at hl 2 rfl) ?_
  refine n_icmp_le hx hb 21 (by omega) (by omega) dX7_requireRange_7 (by decide) (fun _ => ?_) (fun zq => absurd zq (by omega))
  refine vx_ret (m_vret X Y hr hlocks (by decide) (by decide) ?_ dX7_requireRange_21)
  exact rfl
theorem kwX7_requireRange_1 : Cond.classLink RX7 213 "java/lang/IllegalArgumentException" ∈ wsX7_requireRange := List.mem_of_getElem? (i := 1) rfl
theorem kwX7_requireRange_2 : Cond.initialized "java/lang/IllegalArgumentException" ∈ wsX7_requireRange := List.mem_of_getElem? (i := 2) rfl
theorem htX7_requireRange_vx_atSRX7217ja1 : ∀ w ∈ (vx_atS RX7 217 "java/lang/IllegalArgumentException" ["java/lang/RuntimeException", "java/lang/Exception"]).filter goodWord, w ∈ wsX7_requireRange := fun _ h => List.mem_cons_of_mem _ (List.mem_append_right _ h)
set_option maxHeartbeats 4000000 in
set_option maxRecDepth 100000 in
theorem c_rr_bad (l : Launch) (hlt : l.stackTraces = false) (D : va_G) (kc : Nat → ClassId) (A : Nat → Prop) (e0 : Nat × Nat) (M : Mp) (v : Int32) (lo hi : Nat) (hb9 : v < nI lo ∨ nI hi < v) : vx_Met l yX7_requireRange wsX7_requireRange ({ frames := 6, cells := 1, slots := 6, locals := 90 }) (mPre D kc A e0 M [.int v, .int (nI lo), .int (nI hi)]) (va_Qv noQv (mB D A) A) (mXC D A (exP M 2)) 1 6 A := by
  refine vx_ofW (cc := cX7_requireRange) (maxL := 3) (ret := none) (by decide) rfl ?_
  intro p e s m args below meth c s₁ B hml htab hv
  obtain ⟨rfl, hw, hK, hA, hcx⟩ := hv
  have X : mX p s m _ c cX7_requireRange 3 RX7 wsX7_requireRange D kc := ⟨⟨B.exec, B.bytes, hml, findClass_of_methodNamed B.named, atoms_spec (ws := wsX7_requireRange) B.pre⟩, hK⟩
  have hx := B.exec
  have hb := B.bytes
  have hr := B.returns
  have hlocks := B.notSynchronized
  have Y : mY D A M s s.heap [] := ⟨hw, va_S.rf⟩
  have hl := lv_entry ([.int v, .int (nI lo), .int (nI hi)]) (n := 3) (Nat.le_of_ble_eq_true rfl)
  rw [lg_entry_eq]
  generalize (lg_sl ([.int v, .int (nI lo), .int (nI hi)]) ++ List.replicate (3 - (lg_sl ([.int v, .int (nI lo), .int (nI hi)])).length) Slot.unset).toArray = ls at hl ⊢
  have hl : lv_has ls 3 [(0, .int v), (1, .int (nI lo)), (2, .int (nI hi))] := hl
  refine lv_iload_n hx hb dX7_requireRange_0 rfl (lv_at hl 0 rfl) ?_
  refine lv_iload_n hx hb dX7_requireRange_1 rfl (lv_at hl 1 rfl) ?_
  refine lv_icmp_lt (tgt := 10) hx hb dX7_requireRange_2 (by decide) (fun c2 => ?_) (fun c2 => ?_)
  · exact m_throwW X Y hcx hlt htab hlocks hl.1 2 (is := 273) (text := "out of range") (by decide) th_fit.2.1 th_good2 th_ng2 (by decide) kwX7_requireRange_1 kwX7_requireRange_2 htX7_requireRange_vx_atSRX7217ja1 dX7_requireRange_10 dX7_requireRange_13 dX7_requireRange_14 dX7_requireRange_17 dX7_requireRange_20 (by decide) (Nat.le_of_ble_eq_true rfl) (by decide) (by decide) (by decide) (by decide) rfl
  · refine lv_iload_n hx hb dX7_requireRange_5 rfl (lv_at hl 0 rfl) ?_
    refine lv_iload_n hx hb dX7_requireRange_6 rfl (lv_at hl 2 rfl) ?_
    refine lv_icmp_le (tgt := 21) hx hb dX7_requireRange_7 (by decide) (fun c7 => ?_) (fun c7 => ?_)
    · refine vx_ret (m_vret X Y hr hlocks (by decide) (by decide) ?_ dX7_requireRange_21)
      rcases hb9 with hb9 | hb9; exact absurd hb9 c2; exact absurd c7 (by rw [Int32.not_le]; exact hb9)
    · exact m_throwW X Y hcx hlt htab hlocks hl.1 2 (is := 273) (text := "out of range") (by decide) th_fit.2.1 th_good2 th_ng2 (by decide) kwX7_requireRange_1 kwX7_requireRange_2 htX7_requireRange_vx_atSRX7217ja1 dX7_requireRange_10 dX7_requireRange_13 dX7_requireRange_14 dX7_requireRange_17 dX7_requireRange_20 (by decide) (Nat.le_of_ble_eq_true rfl) (by decide) (by decide) (by decide) (by decide) rfl
set_option maxHeartbeats 4000000 in
set_option maxRecDepth 100000 in
theorem c_rp_ok (l : Launch) (hlt : l.stackTraces = false) (D : va_G) (kc : Nat → ClassId) (A : Nat → Prop) (e0 : Nat × Nat) (M : Mp)  : vx_Met l yX7_requirePossible wsX7_requirePossible ({ frames := 6, cells := 1, slots := 6, locals := 90 }) (mPre D kc A e0 M [.int (nI 1)]) (va_Qv (fun M1 => M1 = M) (mB D A) A) (mXC D A noX) 1 6 A := by
  refine vx_ofW (cc := cX7_requirePossible) (maxL := 1) (ret := none) (by decide) rfl ?_
  intro p e s m args below meth c s₁ B hml htab hv
  obtain ⟨rfl, hw, hK, hA, hcx⟩ := hv
  have X : mX p s m _ c cX7_requirePossible 1 RX7 wsX7_requirePossible D kc := ⟨⟨B.exec, B.bytes, hml, findClass_of_methodNamed B.named, atoms_spec (ws := wsX7_requirePossible) B.pre⟩, hK⟩
  have hx := B.exec
  have hb := B.bytes
  have hr := B.returns
  have hlocks := B.notSynchronized
  have Y : mY D A M s s.heap [] := ⟨hw, va_S.rf⟩
  have hl := lv_entry ([.int (nI 1)]) (n := 1) (Nat.le_of_ble_eq_true rfl)
  rw [lg_entry_eq]
  generalize (lg_sl ([.int (nI 1)]) ++ List.replicate (1 - (lg_sl ([.int (nI 1)])).length) Slot.unset).toArray = ls at hl ⊢
  have hl : lv_has ls 1 [(0, .int (nI 1))] := hl
  refine lv_iload_n hx hb dX7_requirePossible_0 rfl (lv_at hl 0 rfl) ?_
  refine n_if_ne hx hb 15 (by omega) dX7_requirePossible_1 (by decide) (fun _ => ?_) (fun zq => absurd zq (by decide))
  refine vx_ret (m_vret X Y hr hlocks (by decide) (by decide) ?_ dX7_requirePossible_15)
  exact rfl
theorem kwX7_requirePossible_1 : Cond.classLink RX7 275 "java/lang/IllegalStateException" ∈ wsX7_requirePossible := List.mem_of_getElem? (i := 1) rfl
theorem kwX7_requirePossible_2 : Cond.initialized "java/lang/IllegalStateException" ∈ wsX7_requirePossible := List.mem_of_getElem? (i := 2) rfl
theorem htX7_requirePossible_vx_atSRX7279ja1 : ∀ w ∈ (vx_atS RX7 279 "java/lang/IllegalStateException" ["java/lang/RuntimeException", "java/lang/Exception"]).filter goodWord, w ∈ wsX7_requirePossible := fun _ h => List.mem_cons_of_mem _ (List.mem_append_right _ h)
set_option maxHeartbeats 4000000 in
set_option maxRecDepth 100000 in
theorem c_rp_bad (l : Launch) (hlt : l.stackTraces = false) (D : va_G) (kc : Nat → ClassId) (A : Nat → Prop) (e0 : Nat × Nat) (M : Mp)  : vx_Met l yX7_requirePossible wsX7_requirePossible ({ frames := 6, cells := 1, slots := 6, locals := 90 }) (mPre D kc A e0 M [.int (nI 0)]) (va_Qv noQv (mB D A) A) (mXC D A (exP M 3)) 1 6 A := by
  refine vx_ofW (cc := cX7_requirePossible) (maxL := 1) (ret := none) (by decide) rfl ?_
  intro p e s m args below meth c s₁ B hml htab hv
  obtain ⟨rfl, hw, hK, hA, hcx⟩ := hv
  have X : mX p s m _ c cX7_requirePossible 1 RX7 wsX7_requirePossible D kc := ⟨⟨B.exec, B.bytes, hml, findClass_of_methodNamed B.named, atoms_spec (ws := wsX7_requirePossible) B.pre⟩, hK⟩
  have hx := B.exec
  have hb := B.bytes
  have hr := B.returns
  have hlocks := B.notSynchronized
  have Y : mY D A M s s.heap [] := ⟨hw, va_S.rf⟩
  have hl := lv_entry ([.int (nI 0)]) (n := 1) (Nat.le_of_ble_eq_true rfl)
  rw [lg_entry_eq]
  generalize (lg_sl ([.int (nI 0)]) ++ List.replicate (1 - (lg_sl ([.int (nI 0)])).length) Slot.unset).toArray = ls at hl ⊢
  have hl : lv_has ls 1 [(0, .int (nI 0))] := hl
  refine lv_iload_n hx hb dX7_requirePossible_0 rfl (lv_at hl 0 rfl) ?_
  refine n_if_ne hx hb 15 (by omega) dX7_requirePossible_1 (by decide) (fun zq => absurd zq (by decide)) (fun _ => ?_)
  exact m_throwW X Y hcx hlt htab hlocks hl.1 3 (is := 277) (text := "not possible now") (by decide) th_fit.2.2.1 th_good3 th_ng3 (by decide) kwX7_requirePossible_1 kwX7_requirePossible_2 htX7_requirePossible_vx_atSRX7279ja1 dX7_requirePossible_4 dX7_requirePossible_7 dX7_requirePossible_8 dX7_requirePossible_11 dX7_requirePossible_14 (by decide) (Nat.le_of_ble_eq_true rfl) (by decide) (by decide) (by decide) (by decide) rfl
theorem kwX7_bankAt_3 : Cond.fieldLink RX7 11 "CardPort" "banks" "[LCardPort$Bank;" ∈ wsX7_bankAt := List.mem_of_getElem? (i := 3) rfl
theorem htX7_bankAt_wsX701 : ∀ w ∈ wsX70, w ∈ wsX7_bankAt := fun _ h => List.mem_cons_of_mem _ (List.mem_append_left _ (List.mem_append_right _ h))
set_option maxHeartbeats 4000000 in
set_option maxRecDepth 100000 in
theorem c_bankAt (l : Launch) (hlt : l.stackTraces = false) (D : va_G) (kc : Nat → ClassId) (A : Nat → Prop) (e0 : Nat × Nat) (M : Mp) {pr : Nat → Prop} {σ τ : Sg} {th : Int32} {o : Int64} {g : Gh} {nn : Nat} (hG : G pr kc e0 σ τ th o g M) (hwf : WS nn σ) (hpr : ∀ t, t ≤ 10 → pr t) (j : Nat) (hj : j < 4) : vx_Met l yX7_bankAt wsX7_bankAt ({ frames := 6, cells := 1, slots := 6, locals := 90 }) (mPre D kc A e0 M [.ref (g.1 7 0), .int (nI j)]) (va_Qq (fun r M1 => r = some (g.1 0 j) ∧ M1 = M) (mB D A) A) (mXC D A noX) 1 6 A := by
  refine vx_ofW (cc := cX7_bankAt) (maxL := 2) (ret := (some (.object "CardPort$Bank"))) (by decide) rfl ?_
  intro p e s m args below meth c s₁ B hml htab hv
  obtain ⟨rfl, hw, hK, hA, hcx⟩ := hv
  have X : mX p s m _ c cX7_bankAt 2 RX7 wsX7_bankAt D kc := ⟨⟨B.exec, B.bytes, hml, findClass_of_methodNamed B.named, atoms_spec (ws := wsX7_bankAt) B.pre⟩, hK⟩
  have hx := B.exec
  have hb := B.bytes
  have hr := B.returns
  have hlocks := B.notSynchronized
  have Y : mY D A M s s.heap [] := ⟨hw, va_S.rf⟩
  have hl := lv_entry ([.ref (g.1 7 0), .int (nI j)]) (n := 2) (Nat.le_of_ble_eq_true rfl)
  rw [lg_entry_eq]
  generalize (lg_sl ([.ref (g.1 7 0), .int (nI j)]) ++ List.replicate (2 - (lg_sl ([.ref (g.1 7 0), .int (nI j)])).length) Slot.unset).toArray = ls at hl ⊢
  have hl : lv_has ls 2 [(0, .ref (g.1 7 0)), (1, .int (nI j))] := hl
  have hwn := hwf.2.2.2.1
  have hwd := hwf.1
  refine lv_iload_n hx hb dX7_bankAt_0 rfl (lv_at hl 1 rfl) ?_
  refine lv_if_lt (tgt := 9) hx hb dX7_bankAt_1 (by decide) (fun zq => absurd zq (nI_pos (by omega))) (fun _ => ?_)
  refine lv_iload_n hx hb dX7_bankAt_4 rfl (lv_at hl 1 rfl) ?_
  refine n_iconst hx hb 4 dX7_bankAt_5 (by decide) ?_
  refine n_icmp_lt hx hb 20 (by omega) (by omega) dX7_bankAt_6 (by decide) (fun _ => ?_) (fun zq => absurd zq (by omega))
  refine lv_aload_n hx hb dX7_bankAt_20 rfl (lv_at hl 0 rfl) ?_
  have hg1 := hG.f7 (hpr 7 (by decide))
  refine m_get (ref := "CardPort") (C := RX7) (T := TX7) (N := 8) (ci := 8) X Y htX7_bankAt_wsX701 hg1 rfl 0 (by decide) kwX7_bankAt_3 rfl (v := .ref (g.1 8 0)) rfl dX7_bankAt_21 ?_
  refine lv_iload_n hx hb dX7_bankAt_24 rfl (lv_at hl 1 rfl) ?_
  have hg2 := hG.f8_0 (hpr 8 (by decide))
  refine m_aald X Y 3 (C := RX0) rfl hg2 (vp_in_nI hj (by decide)) (v := g.1 0 j) (by rw [nI_cl (by have := hj; omega)]; exact if_pos hj) dX7_bankAt_25 ?_
  refine vx_ret (m_aret X Y hr (Or.inl ⟨_, rfl⟩) hlocks (by decide) (by decide) (some (g.1 0 j)) ?_ dX7_bankAt_26)
  exact ⟨rfl, rfl⟩
theorem kwX7_bankAt_1 : Cond.classLink RX7 247 "java/lang/IndexOutOfBoundsException" ∈ wsX7_bankAt := List.mem_of_getElem? (i := 1) rfl
theorem kwX7_bankAt_2 : Cond.initialized "java/lang/IndexOutOfBoundsException" ∈ wsX7_bankAt := List.mem_of_getElem? (i := 2) rfl
theorem htX7_bankAt_vx_atSRX7251ja2 : ∀ w ∈ (vx_atS RX7 251 "java/lang/IndexOutOfBoundsException" ["java/lang/RuntimeException", "java/lang/Exception"]).filter goodWord, w ∈ wsX7_bankAt := fun _ h => List.mem_cons_of_mem _ (List.mem_append_right _ h)
set_option maxHeartbeats 4000000 in
set_option maxRecDepth 100000 in
theorem c_bankAt_bad (l : Launch) (hlt : l.stackTraces = false) (D : va_G) (kc : Nat → ClassId) (A : Nat → Prop) (e0 : Nat × Nat) (M : Mp) (h0 : Nat) (v : Int32) (hb9 : v < 0 ∨ nI 4 ≤ v) : vx_Met l yX7_bankAt wsX7_bankAt ({ frames := 6, cells := 1, slots := 6, locals := 90 }) (mPre D kc A e0 M [.ref h0, .int v]) (va_Qq noQq (mB D A) A) (mXC D A (exP M 1)) 1 6 A := by
  refine vx_ofW (cc := cX7_bankAt) (maxL := 2) (ret := (some (.object "CardPort$Bank"))) (by decide) rfl ?_
  intro p e s m args below meth c s₁ B hml htab hv
  obtain ⟨rfl, hw, hK, hA, hcx⟩ := hv
  have X : mX p s m _ c cX7_bankAt 2 RX7 wsX7_bankAt D kc := ⟨⟨B.exec, B.bytes, hml, findClass_of_methodNamed B.named, atoms_spec (ws := wsX7_bankAt) B.pre⟩, hK⟩
  have hx := B.exec
  have hb := B.bytes
  have hr := B.returns
  have hlocks := B.notSynchronized
  have Y : mY D A M s s.heap [] := ⟨hw, va_S.rf⟩
  have hl := lv_entry ([.ref h0, .int v]) (n := 2) (Nat.le_of_ble_eq_true rfl)
  rw [lg_entry_eq]
  generalize (lg_sl ([.ref h0, .int v]) ++ List.replicate (2 - (lg_sl ([.ref h0, .int v])).length) Slot.unset).toArray = ls at hl ⊢
  have hl : lv_has ls 2 [(0, .ref h0), (1, .int v)] := hl
  refine lv_iload_n hx hb dX7_bankAt_0 rfl (lv_at hl 1 rfl) ?_
  refine lv_if_lt (tgt := 9) hx hb dX7_bankAt_1 (by decide) (fun c1 => ?_) (fun c1 => ?_)
  · exact m_throwW X Y hcx hlt htab hlocks hl.1 1 (is := 259) (text := "no such bank") (by decide) th_fit.1 th_good1 th_ng1 (by decide) kwX7_bankAt_1 kwX7_bankAt_2 htX7_bankAt_vx_atSRX7251ja2 dX7_bankAt_9 dX7_bankAt_12 dX7_bankAt_13 dX7_bankAt_16 dX7_bankAt_19 (by decide) (Nat.le_of_ble_eq_true rfl) (by decide) (by decide) (by decide) (by decide) rfl
  · refine lv_iload_n hx hb dX7_bankAt_4 rfl (lv_at hl 1 rfl) ?_
    refine n_iconst hx hb 4 dX7_bankAt_5 (by decide) ?_
    refine lv_icmp_lt (tgt := 20) hx hb dX7_bankAt_6 (by decide) (fun c6 => ?_) (fun c6 => ?_)
    · exact (bad2 hb9 c1 c6).elim
    · exact m_throwW X Y hcx hlt htab hlocks hl.1 1 (is := 259) (text := "no such bank") (by decide) th_fit.1 th_good1 th_ng1 (by decide) kwX7_bankAt_1 kwX7_bankAt_2 htX7_bankAt_vx_atSRX7251ja2 dX7_bankAt_9 dX7_bankAt_12 dX7_bankAt_13 dX7_bankAt_16 dX7_bankAt_19 (by decide) (Nat.le_of_ble_eq_true rfl) (by decide) (by decide) (by decide) (by decide) rfl
theorem kwX7_kindAt_3 : Cond.fieldLink RX7 17 "CardPort" "kinds" "[LCardPort$Kind;" ∈ wsX7_kindAt := List.mem_of_getElem? (i := 3) rfl
theorem htX7_kindAt_wsX701 : ∀ w ∈ wsX70, w ∈ wsX7_kindAt := fun _ h => List.mem_cons_of_mem _ (List.mem_append_left _ (List.mem_append_right _ h))
set_option maxHeartbeats 4000000 in
set_option maxRecDepth 100000 in
theorem c_kindAt (l : Launch) (hlt : l.stackTraces = false) (D : va_G) (kc : Nat → ClassId) (A : Nat → Prop) (e0 : Nat × Nat) (M : Mp) {pr : Nat → Prop} {σ τ : Sg} {th : Int32} {o : Int64} {g : Gh} {nn : Nat} (hG : G pr kc e0 σ τ th o g M) (hwf : WS nn σ) (hpr : ∀ t, t ≤ 10 → pr t) (j : Nat) (hj : j < 3) : vx_Met l yX7_kindAt wsX7_kindAt ({ frames := 6, cells := 1, slots := 6, locals := 90 }) (mPre D kc A e0 M [.ref (g.1 7 0), .int (nI j)]) (va_Qq (fun r M1 => r = some (g.1 4 j) ∧ M1 = M) (mB D A) A) (mXC D A noX) 1 6 A := by
  refine vx_ofW (cc := cX7_kindAt) (maxL := 2) (ret := (some (.object "CardPort$Kind"))) (by decide) rfl ?_
  intro p e s m args below meth c s₁ B hml htab hv
  obtain ⟨rfl, hw, hK, hA, hcx⟩ := hv
  have X : mX p s m _ c cX7_kindAt 2 RX7 wsX7_kindAt D kc := ⟨⟨B.exec, B.bytes, hml, findClass_of_methodNamed B.named, atoms_spec (ws := wsX7_kindAt) B.pre⟩, hK⟩
  have hx := B.exec
  have hb := B.bytes
  have hr := B.returns
  have hlocks := B.notSynchronized
  have Y : mY D A M s s.heap [] := ⟨hw, va_S.rf⟩
  have hl := lv_entry ([.ref (g.1 7 0), .int (nI j)]) (n := 2) (Nat.le_of_ble_eq_true rfl)
  rw [lg_entry_eq]
  generalize (lg_sl ([.ref (g.1 7 0), .int (nI j)]) ++ List.replicate (2 - (lg_sl ([.ref (g.1 7 0), .int (nI j)])).length) Slot.unset).toArray = ls at hl ⊢
  have hl : lv_has ls 2 [(0, .ref (g.1 7 0)), (1, .int (nI j))] := hl
  have hwn := hwf.2.2.2.1
  have hwd := hwf.1
  refine lv_iload_n hx hb dX7_kindAt_0 rfl (lv_at hl 1 rfl) ?_
  refine lv_if_lt (tgt := 9) hx hb dX7_kindAt_1 (by decide) (fun zq => absurd zq (nI_pos (by omega))) (fun _ => ?_)
  refine lv_iload_n hx hb dX7_kindAt_4 rfl (lv_at hl 1 rfl) ?_
  refine n_iconst hx hb 3 dX7_kindAt_5 (by decide) ?_
  refine n_icmp_lt hx hb 20 (by omega) (by omega) dX7_kindAt_6 (by decide) (fun _ => ?_) (fun zq => absurd zq (by omega))
  refine lv_aload_n hx hb dX7_kindAt_20 rfl (lv_at hl 0 rfl) ?_
  have hg1 := hG.f7 (hpr 7 (by decide))
  refine m_get (ref := "CardPort") (C := RX7) (T := TX7) (N := 8) (ci := 8) X Y htX7_kindAt_wsX701 hg1 rfl 1 (by decide) kwX7_kindAt_3 rfl (v := .ref (g.1 8 1)) rfl dX7_kindAt_21 ?_
  refine lv_iload_n hx hb dX7_kindAt_24 rfl (lv_at hl 1 rfl) ?_
  have hg2 := hG.f8_1 (hpr 8 (by decide))
  refine m_aald X Y 4 (C := RX4) rfl hg2 (vp_in_nI hj (by decide)) (v := g.1 4 j) (by rw [nI_cl (by have := hj; omega)]; exact if_pos hj) dX7_kindAt_25 ?_
  refine vx_ret (m_aret X Y hr (Or.inl ⟨_, rfl⟩) hlocks (by decide) (by decide) (some (g.1 4 j)) ?_ dX7_kindAt_26)
  exact ⟨rfl, rfl⟩
theorem kwX7_kindAt_1 : Cond.classLink RX7 247 "java/lang/IndexOutOfBoundsException" ∈ wsX7_kindAt := List.mem_of_getElem? (i := 1) rfl
theorem kwX7_kindAt_2 : Cond.initialized "java/lang/IndexOutOfBoundsException" ∈ wsX7_kindAt := List.mem_of_getElem? (i := 2) rfl
theorem htX7_kindAt_vx_atSRX7251ja2 : ∀ w ∈ (vx_atS RX7 251 "java/lang/IndexOutOfBoundsException" ["java/lang/RuntimeException", "java/lang/Exception"]).filter goodWord, w ∈ wsX7_kindAt := fun _ h => List.mem_cons_of_mem _ (List.mem_append_right _ h)
set_option maxHeartbeats 4000000 in
set_option maxRecDepth 100000 in
theorem c_kindAt_bad (l : Launch) (hlt : l.stackTraces = false) (D : va_G) (kc : Nat → ClassId) (A : Nat → Prop) (e0 : Nat × Nat) (M : Mp) (h0 : Nat) (v : Int32) (hb9 : v < 0 ∨ nI 3 ≤ v) : vx_Met l yX7_kindAt wsX7_kindAt ({ frames := 6, cells := 1, slots := 6, locals := 90 }) (mPre D kc A e0 M [.ref h0, .int v]) (va_Qq noQq (mB D A) A) (mXC D A (exP M 1)) 1 6 A := by
  refine vx_ofW (cc := cX7_kindAt) (maxL := 2) (ret := (some (.object "CardPort$Kind"))) (by decide) rfl ?_
  intro p e s m args below meth c s₁ B hml htab hv
  obtain ⟨rfl, hw, hK, hA, hcx⟩ := hv
  have X : mX p s m _ c cX7_kindAt 2 RX7 wsX7_kindAt D kc := ⟨⟨B.exec, B.bytes, hml, findClass_of_methodNamed B.named, atoms_spec (ws := wsX7_kindAt) B.pre⟩, hK⟩
  have hx := B.exec
  have hb := B.bytes
  have hr := B.returns
  have hlocks := B.notSynchronized
  have Y : mY D A M s s.heap [] := ⟨hw, va_S.rf⟩
  have hl := lv_entry ([.ref h0, .int v]) (n := 2) (Nat.le_of_ble_eq_true rfl)
  rw [lg_entry_eq]
  generalize (lg_sl ([.ref h0, .int v]) ++ List.replicate (2 - (lg_sl ([.ref h0, .int v])).length) Slot.unset).toArray = ls at hl ⊢
  have hl : lv_has ls 2 [(0, .ref h0), (1, .int v)] := hl
  refine lv_iload_n hx hb dX7_kindAt_0 rfl (lv_at hl 1 rfl) ?_
  refine lv_if_lt (tgt := 9) hx hb dX7_kindAt_1 (by decide) (fun c1 => ?_) (fun c1 => ?_)
  · exact m_throwW X Y hcx hlt htab hlocks hl.1 1 (is := 261) (text := "no such kind") (by decide) th_fit.1 th_good1 th_ng1 (by decide) kwX7_kindAt_1 kwX7_kindAt_2 htX7_kindAt_vx_atSRX7251ja2 dX7_kindAt_9 dX7_kindAt_12 dX7_kindAt_13 dX7_kindAt_16 dX7_kindAt_19 (by decide) (Nat.le_of_ble_eq_true rfl) (by decide) (by decide) (by decide) (by decide) rfl
  · refine lv_iload_n hx hb dX7_kindAt_4 rfl (lv_at hl 1 rfl) ?_
    refine n_iconst hx hb 3 dX7_kindAt_5 (by decide) ?_
    refine lv_icmp_lt (tgt := 20) hx hb dX7_kindAt_6 (by decide) (fun c6 => ?_) (fun c6 => ?_)
    · exact (bad2 hb9 c1 c6).elim
    · exact m_throwW X Y hcx hlt htab hlocks hl.1 1 (is := 261) (text := "no such kind") (by decide) th_fit.1 th_good1 th_ng1 (by decide) kwX7_kindAt_1 kwX7_kindAt_2 htX7_kindAt_vx_atSRX7251ja2 dX7_kindAt_9 dX7_kindAt_12 dX7_kindAt_13 dX7_kindAt_16 dX7_kindAt_19 (by decide) (Nat.le_of_ble_eq_true rfl) (by decide) (by decide) (by decide) (by decide) rfl
theorem kwX7_shopAt_3 : Cond.fieldLink RX7 23 "CardPort" "shops" "[LCardPort$Shop;" ∈ wsX7_shopAt := List.mem_of_getElem? (i := 3) rfl
theorem htX7_shopAt_wsX701 : ∀ w ∈ wsX70, w ∈ wsX7_shopAt := fun _ h => List.mem_cons_of_mem _ (List.mem_append_left _ (List.mem_append_right _ h))
set_option maxHeartbeats 4000000 in
set_option maxRecDepth 100000 in
theorem c_shopAt (l : Launch) (hlt : l.stackTraces = false) (D : va_G) (kc : Nat → ClassId) (A : Nat → Prop) (e0 : Nat × Nat) (M : Mp) {pr : Nat → Prop} {σ τ : Sg} {th : Int32} {o : Int64} {g : Gh} {nn : Nat} (hG : G pr kc e0 σ τ th o g M) (hwf : WS nn σ) (hpr : ∀ t, t ≤ 10 → pr t) (j : Nat) (hj : j < 8) : vx_Met l yX7_shopAt wsX7_shopAt ({ frames := 6, cells := 1, slots := 6, locals := 90 }) (mPre D kc A e0 M [.ref (g.1 7 0), .int (nI j)]) (va_Qq (fun r M1 => r = some (g.1 6 j) ∧ M1 = M) (mB D A) A) (mXC D A noX) 1 6 A := by
  refine vx_ofW (cc := cX7_shopAt) (maxL := 2) (ret := (some (.object "CardPort$Shop"))) (by decide) rfl ?_
  intro p e s m args below meth c s₁ B hml htab hv
  obtain ⟨rfl, hw, hK, hA, hcx⟩ := hv
  have X : mX p s m _ c cX7_shopAt 2 RX7 wsX7_shopAt D kc := ⟨⟨B.exec, B.bytes, hml, findClass_of_methodNamed B.named, atoms_spec (ws := wsX7_shopAt) B.pre⟩, hK⟩
  have hx := B.exec
  have hb := B.bytes
  have hr := B.returns
  have hlocks := B.notSynchronized
  have Y : mY D A M s s.heap [] := ⟨hw, va_S.rf⟩
  have hl := lv_entry ([.ref (g.1 7 0), .int (nI j)]) (n := 2) (Nat.le_of_ble_eq_true rfl)
  rw [lg_entry_eq]
  generalize (lg_sl ([.ref (g.1 7 0), .int (nI j)]) ++ List.replicate (2 - (lg_sl ([.ref (g.1 7 0), .int (nI j)])).length) Slot.unset).toArray = ls at hl ⊢
  have hl : lv_has ls 2 [(0, .ref (g.1 7 0)), (1, .int (nI j))] := hl
  have hwn := hwf.2.2.2.1
  have hwd := hwf.1
  refine lv_iload_n hx hb dX7_shopAt_0 rfl (lv_at hl 1 rfl) ?_
  refine lv_if_lt (tgt := 10) hx hb dX7_shopAt_1 (by decide) (fun zq => absurd zq (nI_pos (by omega))) (fun _ => ?_)
  refine lv_iload_n hx hb dX7_shopAt_4 rfl (lv_at hl 1 rfl) ?_
  refine n_bipush hx hb 8 dX7_shopAt_5 (by decide) ?_
  refine n_icmp_lt hx hb 21 (by omega) (by omega) dX7_shopAt_7 (by decide) (fun _ => ?_) (fun zq => absurd zq (by omega))
  refine lv_aload_n hx hb dX7_shopAt_21 rfl (lv_at hl 0 rfl) ?_
  have hg1 := hG.f7 (hpr 7 (by decide))
  refine m_get (ref := "CardPort") (C := RX7) (T := TX7) (N := 8) (ci := 8) X Y htX7_shopAt_wsX701 hg1 rfl 2 (by decide) kwX7_shopAt_3 rfl (v := .ref (g.1 8 2)) rfl dX7_shopAt_22 ?_
  refine lv_iload_n hx hb dX7_shopAt_25 rfl (lv_at hl 1 rfl) ?_
  have hg2 := hG.f8_2 (hpr 8 (by decide))
  refine m_aald X Y 5 (C := RX6) rfl hg2 (vp_in_nI hj (by decide)) (v := g.1 6 j) (by rw [nI_cl (by have := hj; omega)]; exact if_pos hj) dX7_shopAt_26 ?_
  refine vx_ret (m_aret X Y hr (Or.inl ⟨_, rfl⟩) hlocks (by decide) (by decide) (some (g.1 6 j)) ?_ dX7_shopAt_27)
  exact ⟨rfl, rfl⟩
theorem kwX7_shopAt_1 : Cond.classLink RX7 247 "java/lang/IndexOutOfBoundsException" ∈ wsX7_shopAt := List.mem_of_getElem? (i := 1) rfl
theorem kwX7_shopAt_2 : Cond.initialized "java/lang/IndexOutOfBoundsException" ∈ wsX7_shopAt := List.mem_of_getElem? (i := 2) rfl
theorem htX7_shopAt_vx_atSRX7251ja2 : ∀ w ∈ (vx_atS RX7 251 "java/lang/IndexOutOfBoundsException" ["java/lang/RuntimeException", "java/lang/Exception"]).filter goodWord, w ∈ wsX7_shopAt := fun _ h => List.mem_cons_of_mem _ (List.mem_append_right _ h)
set_option maxHeartbeats 4000000 in
set_option maxRecDepth 100000 in
theorem c_shopAt_bad (l : Launch) (hlt : l.stackTraces = false) (D : va_G) (kc : Nat → ClassId) (A : Nat → Prop) (e0 : Nat × Nat) (M : Mp) (h0 : Nat) (v : Int32) (hb9 : v < 0 ∨ nI 8 ≤ v) : vx_Met l yX7_shopAt wsX7_shopAt ({ frames := 6, cells := 1, slots := 6, locals := 90 }) (mPre D kc A e0 M [.ref h0, .int v]) (va_Qq noQq (mB D A) A) (mXC D A (exP M 1)) 1 6 A := by
  refine vx_ofW (cc := cX7_shopAt) (maxL := 2) (ret := (some (.object "CardPort$Shop"))) (by decide) rfl ?_
  intro p e s m args below meth c s₁ B hml htab hv
  obtain ⟨rfl, hw, hK, hA, hcx⟩ := hv
  have X : mX p s m _ c cX7_shopAt 2 RX7 wsX7_shopAt D kc := ⟨⟨B.exec, B.bytes, hml, findClass_of_methodNamed B.named, atoms_spec (ws := wsX7_shopAt) B.pre⟩, hK⟩
  have hx := B.exec
  have hb := B.bytes
  have hr := B.returns
  have hlocks := B.notSynchronized
  have Y : mY D A M s s.heap [] := ⟨hw, va_S.rf⟩
  have hl := lv_entry ([.ref h0, .int v]) (n := 2) (Nat.le_of_ble_eq_true rfl)
  rw [lg_entry_eq]
  generalize (lg_sl ([.ref h0, .int v]) ++ List.replicate (2 - (lg_sl ([.ref h0, .int v])).length) Slot.unset).toArray = ls at hl ⊢
  have hl : lv_has ls 2 [(0, .ref h0), (1, .int v)] := hl
  refine lv_iload_n hx hb dX7_shopAt_0 rfl (lv_at hl 1 rfl) ?_
  refine lv_if_lt (tgt := 10) hx hb dX7_shopAt_1 (by decide) (fun c1 => ?_) (fun c1 => ?_)
  · exact m_throwW X Y hcx hlt htab hlocks hl.1 1 (is := 263) (text := "no such shop") (by decide) th_fit.1 th_good1 th_ng1 (by decide) kwX7_shopAt_1 kwX7_shopAt_2 htX7_shopAt_vx_atSRX7251ja2 dX7_shopAt_10 dX7_shopAt_13 dX7_shopAt_14 dX7_shopAt_17 dX7_shopAt_20 (by decide) (Nat.le_of_ble_eq_true rfl) (by decide) (by decide) (by decide) (by decide) rfl
  · refine lv_iload_n hx hb dX7_shopAt_4 rfl (lv_at hl 1 rfl) ?_
    refine n_bipush hx hb 8 dX7_shopAt_5 (by decide) ?_
    refine lv_icmp_lt (tgt := 21) hx hb dX7_shopAt_7 (by decide) (fun c7 => ?_) (fun c7 => ?_)
    · exact (bad2 hb9 c1 c7).elim
    · exact m_throwW X Y hcx hlt htab hlocks hl.1 1 (is := 263) (text := "no such shop") (by decide) th_fit.1 th_good1 th_ng1 (by decide) kwX7_shopAt_1 kwX7_shopAt_2 htX7_shopAt_vx_atSRX7251ja2 dX7_shopAt_10 dX7_shopAt_13 dX7_shopAt_14 dX7_shopAt_17 dX7_shopAt_20 (by decide) (Nat.le_of_ble_eq_true rfl) (by decide) (by decide) (by decide) (by decide) rfl
theorem kwX7_cardAt_3 : Cond.fieldLink RX7 29 "CardPort" "cards" "[LCardPort$Card;" ∈ wsX7_cardAt := List.mem_of_getElem? (i := 3) rfl
theorem htX7_cardAt_wsX701 : ∀ w ∈ wsX70, w ∈ wsX7_cardAt := fun _ h => List.mem_cons_of_mem _ (List.mem_append_left _ (List.mem_append_right _ h))
set_option maxHeartbeats 4000000 in
set_option maxRecDepth 100000 in
theorem c_cardAt (l : Launch) (hlt : l.stackTraces = false) (D : va_G) (kc : Nat → ClassId) (A : Nat → Prop) (e0 : Nat × Nat) (M : Mp) {pr : Nat → Prop} {σ τ : Sg} {th : Int32} {o : Int64} {g : Gh} {nn : Nat} (hG : G pr kc e0 σ τ th o g M) (hwf : WS nn σ) (hpr : ∀ t, t ≤ 10 → pr t) (j : Nat) (hj : j < 12) : vx_Met l yX7_cardAt wsX7_cardAt ({ frames := 6, cells := 1, slots := 6, locals := 90 }) (mPre D kc A e0 M [.ref (g.1 7 0), .int (nI j)]) (va_Qq (fun r M1 => r = some (g.1 2 j) ∧ M1 = M) (mB D A) A) (mXC D A noX) 1 6 A := by
  refine vx_ofW (cc := cX7_cardAt) (maxL := 2) (ret := (some (.object "CardPort$Card"))) (by decide) rfl ?_
  intro p e s m args below meth c s₁ B hml htab hv
  obtain ⟨rfl, hw, hK, hA, hcx⟩ := hv
  have X : mX p s m _ c cX7_cardAt 2 RX7 wsX7_cardAt D kc := ⟨⟨B.exec, B.bytes, hml, findClass_of_methodNamed B.named, atoms_spec (ws := wsX7_cardAt) B.pre⟩, hK⟩
  have hx := B.exec
  have hb := B.bytes
  have hr := B.returns
  have hlocks := B.notSynchronized
  have Y : mY D A M s s.heap [] := ⟨hw, va_S.rf⟩
  have hl := lv_entry ([.ref (g.1 7 0), .int (nI j)]) (n := 2) (Nat.le_of_ble_eq_true rfl)
  rw [lg_entry_eq]
  generalize (lg_sl ([.ref (g.1 7 0), .int (nI j)]) ++ List.replicate (2 - (lg_sl ([.ref (g.1 7 0), .int (nI j)])).length) Slot.unset).toArray = ls at hl ⊢
  have hl : lv_has ls 2 [(0, .ref (g.1 7 0)), (1, .int (nI j))] := hl
  have hwn := hwf.2.2.2.1
  have hwd := hwf.1
  refine lv_iload_n hx hb dX7_cardAt_0 rfl (lv_at hl 1 rfl) ?_
  refine lv_if_lt (tgt := 10) hx hb dX7_cardAt_1 (by decide) (fun zq => absurd zq (nI_pos (by omega))) (fun _ => ?_)
  refine lv_iload_n hx hb dX7_cardAt_4 rfl (lv_at hl 1 rfl) ?_
  refine n_bipush hx hb 12 dX7_cardAt_5 (by decide) ?_
  refine n_icmp_lt hx hb 21 (by omega) (by omega) dX7_cardAt_7 (by decide) (fun _ => ?_) (fun zq => absurd zq (by omega))
  refine lv_aload_n hx hb dX7_cardAt_21 rfl (lv_at hl 0 rfl) ?_
  have hg1 := hG.f7 (hpr 7 (by decide))
  refine m_get (ref := "CardPort") (C := RX7) (T := TX7) (N := 8) (ci := 8) X Y htX7_cardAt_wsX701 hg1 rfl 3 (by decide) kwX7_cardAt_3 rfl (v := .ref (g.1 8 3)) rfl dX7_cardAt_22 ?_
  refine lv_iload_n hx hb dX7_cardAt_25 rfl (lv_at hl 1 rfl) ?_
  have hg2 := hG.f8_3 (hpr 8 (by decide))
  refine m_aald X Y 6 (C := RX2) rfl hg2 (vp_in_nI hj (by decide)) (v := g.1 2 j) (by rw [nI_cl (by have := hj; omega)]; exact if_pos hj) dX7_cardAt_26 ?_
  refine vx_ret (m_aret X Y hr (Or.inl ⟨_, rfl⟩) hlocks (by decide) (by decide) (some (g.1 2 j)) ?_ dX7_cardAt_27)
  exact ⟨rfl, rfl⟩
theorem kwX7_cardAt_1 : Cond.classLink RX7 247 "java/lang/IndexOutOfBoundsException" ∈ wsX7_cardAt := List.mem_of_getElem? (i := 1) rfl
theorem kwX7_cardAt_2 : Cond.initialized "java/lang/IndexOutOfBoundsException" ∈ wsX7_cardAt := List.mem_of_getElem? (i := 2) rfl
theorem htX7_cardAt_vx_atSRX7251ja2 : ∀ w ∈ (vx_atS RX7 251 "java/lang/IndexOutOfBoundsException" ["java/lang/RuntimeException", "java/lang/Exception"]).filter goodWord, w ∈ wsX7_cardAt := fun _ h => List.mem_cons_of_mem _ (List.mem_append_right _ h)
set_option maxHeartbeats 4000000 in
set_option maxRecDepth 100000 in
theorem c_cardAt_bad (l : Launch) (hlt : l.stackTraces = false) (D : va_G) (kc : Nat → ClassId) (A : Nat → Prop) (e0 : Nat × Nat) (M : Mp) (h0 : Nat) (v : Int32) (hb9 : v < 0 ∨ nI 12 ≤ v) : vx_Met l yX7_cardAt wsX7_cardAt ({ frames := 6, cells := 1, slots := 6, locals := 90 }) (mPre D kc A e0 M [.ref h0, .int v]) (va_Qq noQq (mB D A) A) (mXC D A (exP M 1)) 1 6 A := by
  refine vx_ofW (cc := cX7_cardAt) (maxL := 2) (ret := (some (.object "CardPort$Card"))) (by decide) rfl ?_
  intro p e s m args below meth c s₁ B hml htab hv
  obtain ⟨rfl, hw, hK, hA, hcx⟩ := hv
  have X : mX p s m _ c cX7_cardAt 2 RX7 wsX7_cardAt D kc := ⟨⟨B.exec, B.bytes, hml, findClass_of_methodNamed B.named, atoms_spec (ws := wsX7_cardAt) B.pre⟩, hK⟩
  have hx := B.exec
  have hb := B.bytes
  have hr := B.returns
  have hlocks := B.notSynchronized
  have Y : mY D A M s s.heap [] := ⟨hw, va_S.rf⟩
  have hl := lv_entry ([.ref h0, .int v]) (n := 2) (Nat.le_of_ble_eq_true rfl)
  rw [lg_entry_eq]
  generalize (lg_sl ([.ref h0, .int v]) ++ List.replicate (2 - (lg_sl ([.ref h0, .int v])).length) Slot.unset).toArray = ls at hl ⊢
  have hl : lv_has ls 2 [(0, .ref h0), (1, .int v)] := hl
  refine lv_iload_n hx hb dX7_cardAt_0 rfl (lv_at hl 1 rfl) ?_
  refine lv_if_lt (tgt := 10) hx hb dX7_cardAt_1 (by decide) (fun c1 => ?_) (fun c1 => ?_)
  · exact m_throwW X Y hcx hlt htab hlocks hl.1 1 (is := 265) (text := "no such card") (by decide) th_fit.1 th_good1 th_ng1 (by decide) kwX7_cardAt_1 kwX7_cardAt_2 htX7_cardAt_vx_atSRX7251ja2 dX7_cardAt_10 dX7_cardAt_13 dX7_cardAt_14 dX7_cardAt_17 dX7_cardAt_20 (by decide) (Nat.le_of_ble_eq_true rfl) (by decide) (by decide) (by decide) (by decide) rfl
  · refine lv_iload_n hx hb dX7_cardAt_4 rfl (lv_at hl 1 rfl) ?_
    refine n_bipush hx hb 12 dX7_cardAt_5 (by decide) ?_
    refine lv_icmp_lt (tgt := 21) hx hb dX7_cardAt_7 (by decide) (fun c7 => ?_) (fun c7 => ?_)
    · exact (bad2 hb9 c1 c7).elim
    · exact m_throwW X Y hcx hlt htab hlocks hl.1 1 (is := 265) (text := "no such card") (by decide) th_fit.1 th_good1 th_ng1 (by decide) kwX7_cardAt_1 kwX7_cardAt_2 htX7_cardAt_vx_atSRX7251ja2 dX7_cardAt_10 dX7_cardAt_13 dX7_cardAt_14 dX7_cardAt_17 dX7_cardAt_20 (by decide) (Nat.le_of_ble_eq_true rfl) (by decide) (by decide) (by decide) (by decide) rfl
theorem kwX7_paymentAt_3 : Cond.fieldLink RX7 36 "CardPort" "payments" "Ljava/util/List;" ∈ wsX7_paymentAt := List.mem_of_getElem? (i := 3) rfl
theorem htX7_paymentAt_wsX701 : ∀ w ∈ wsX70, w ∈ wsX7_paymentAt := fun _ h => List.mem_cons_of_mem _ (List.mem_append_left _ (List.mem_append_left _ (List.mem_append_right _ h)))
theorem kwX7_paymentAt_4 : Cond.classLink RX7 108 "CardPort$Payment" ∈ wsX7_paymentAt := List.mem_of_getElem? (i := 4) rfl
set_option maxHeartbeats 4000000 in
set_option maxRecDepth 100000 in
theorem c_paymentAt (l : Launch) (hlt : l.stackTraces = false) (D : va_G) (kc : Nat → ClassId) (A : Nat → Prop) (e0 : Nat × Nat) (M : Mp) {pr : Nat → Prop} {σ τ : Sg} {th : Int32} {o : Int64} {g : Gh} {nn : Nat} (hG : G pr kc e0 σ τ th o g M) (hwf : WS nn σ) (hpr : ∀ t, t ≤ 10 → pr t) (j : Nat) (hj : j < nP σ) : vx_Met l yX7_paymentAt wsX7_paymentAt ({ frames := 6, cells := 1, slots := 6, locals := 90 }) (mPre D kc A e0 M [.ref (g.1 7 0), .int (nI j)]) (va_Qq (fun r M1 => r = some (g.1 5 j) ∧ M1 = M) (mB D A) A) (mXC D A noX) 1 6 A := by
  refine vx_ofW (cc := cX7_paymentAt) (maxL := 2) (ret := (some (.object "CardPort$Payment"))) (by decide) rfl ?_
  intro p e s m args below meth c s₁ B hml htab hv
  obtain ⟨rfl, hw, hK, hA, hcx⟩ := hv
  have X : mX p s m _ c cX7_paymentAt 2 RX7 wsX7_paymentAt D kc := ⟨⟨B.exec, B.bytes, hml, findClass_of_methodNamed B.named, atoms_spec (ws := wsX7_paymentAt) B.pre⟩, hK⟩
  have hx := B.exec
  have hb := B.bytes
  have hr := B.returns
  have hlocks := B.notSynchronized
  have Y : mY D A M s s.heap [] := ⟨hw, va_S.rf⟩
  have hl := lv_entry ([.ref (g.1 7 0), .int (nI j)]) (n := 2) (Nat.le_of_ble_eq_true rfl)
  rw [lg_entry_eq]
  generalize (lg_sl ([.ref (g.1 7 0), .int (nI j)]) ++ List.replicate (2 - (lg_sl ([.ref (g.1 7 0), .int (nI j)])).length) Slot.unset).toArray = ls at hl ⊢
  have hl : lv_has ls 2 [(0, .ref (g.1 7 0)), (1, .int (nI j))] := hl
  have hwn := hwf.2.2.2.1
  have hwd := hwf.1
  refine lv_iload_n hx hb dX7_paymentAt_0 rfl (lv_at hl 1 rfl) ?_
  refine lv_if_lt (tgt := 17) hx hb dX7_paymentAt_1 (by decide) (fun zq => absurd zq (nI_pos (by omega))) (fun _ => ?_)
  refine lv_iload_n hx hb dX7_paymentAt_4 rfl (lv_at hl 1 rfl) ?_
  refine lv_aload_n hx hb dX7_paymentAt_5 rfl (lv_at hl 0 rfl) ?_
  have hg1 := hG.f7 (hpr 7 (by decide))
  refine m_get (ref := "CardPort") (C := RX7) (T := TX7) (N := 8) (ci := 8) X Y htX7_paymentAt_wsX701 hg1 rfl 4 (by decide) kwX7_paymentAt_3 rfl (v := .ref (g.1 9 0)) rfl dX7_paymentAt_6 ?_
  have hg2 := hG.f9_0 (hpr 9 (by decide))
  refine m_rFi (As := []) (rest := [.int (nI j)]) X Y hA hcx (c_size l D kc A e0 M (g.1 9 0) (lar e0 σ g 0) (nP σ) (g.2.2.2 0) hg2) (va_cwF 0 X.1.2.2.2.2 gX7_paymentAt_Jx4a65c_size_8abf5_f94Jx4a65c rfl rfl rfl hcx.1.2.2.2.2.2.2.1 (by decide +kernel) ⟨Nat.le_of_ble_eq_true rfl, Nat.le_of_ble_eq_true rfl⟩) hg2 rfl rfl rfl hl.1 (Nat.le_of_ble_eq_true rfl) dX7_paymentAt_9 ⟨by decide, by decide⟩ (fun H locs Y => ?_)
  refine n_icmp_lt hx hb 28 (by omega) (by omega) dX7_paymentAt_14 (by decide) (fun _ => ?_) (fun zq => absurd zq (by omega))
  refine lv_aload_n hx hb dX7_paymentAt_28 rfl (lv_at hl 0 rfl) ?_
  refine m_get (ref := "CardPort") (C := RX7) (T := TX7) (N := 8) (ci := 8) X Y htX7_paymentAt_wsX701 hg1 rfl 4 (by decide) kwX7_paymentAt_3 rfl (v := .ref (g.1 9 0)) rfl dX7_paymentAt_29 ?_
  refine lv_iload_n hx hb dX7_paymentAt_32 rfl (lv_at hl 1 rfl) ?_
  obtain ⟨-, el3b, el3c, el3d, el3e⟩ := hG.el0 (hpr 10 (by decide)) hj
  refine m_rFq (As := [.int (nI j)]) (rest := []) X Y hA hcx (c_get l D kc A e0 M (g.1 9 0) (lar e0 σ g 0) (nP σ) (g.2.1 0) j (g.1 5 j) (g.2.2.2 0) (g.2.2.1 0) hg2 el3b hj el3c (by omega) el3e) (va_cwF 1 X.1.2.2.2.2 gX7_paymentAt_Jx4a65c_get_915e3_f235Jx4a65c rfl rfl rfl hcx.1.2.2.2.2.2.2.2.1 (by decide +kernel) ⟨Nat.le_of_ble_eq_true rfl, Nat.le_of_ble_eq_true rfl⟩) hg2 rfl rfl rfl hl.1 (Nat.le_of_ble_eq_true rfl) dX7_paymentAt_33 ⟨by decide, by decide⟩ (fun H locs Y => ?_)
  have hg4 := hG.f5 (hpr 5 (by decide)) hj
  have hw5 := hwf.2.2.2.2.1 _ hj
  refine m_cast X Y (C := RX5) kwX7_paymentAt_4 hg4 rfl dX7_paymentAt_38 ?_
  refine vx_ret (m_aret X Y hr (Or.inl ⟨_, rfl⟩) hlocks (by decide) (by decide) (some (g.1 5 j)) ?_ dX7_paymentAt_41)
  exact ⟨rfl, rfl⟩
theorem kwX7_paymentAt_1 : Cond.classLink RX7 247 "java/lang/IndexOutOfBoundsException" ∈ wsX7_paymentAt := List.mem_of_getElem? (i := 1) rfl
theorem kwX7_paymentAt_2 : Cond.initialized "java/lang/IndexOutOfBoundsException" ∈ wsX7_paymentAt := List.mem_of_getElem? (i := 2) rfl
theorem htX7_paymentAt_vx_atSRX7251ja3 : ∀ w ∈ (vx_atS RX7 251 "java/lang/IndexOutOfBoundsException" ["java/lang/RuntimeException", "java/lang/Exception"]).filter goodWord, w ∈ wsX7_paymentAt := fun _ h => List.mem_cons_of_mem _ (List.mem_append_right _ h)
set_option maxHeartbeats 4000000 in
set_option maxRecDepth 100000 in
theorem c_paymentAt_bad (l : Launch) (hlt : l.stackTraces = false) (D : va_G) (kc : Nat → ClassId) (A : Nat → Prop) (e0 : Nat × Nat) (M : Mp) {pr : Nat → Prop} {σ τ : Sg} {th : Int32} {o : Int64} {g : Gh} {nn : Nat} (hG : G pr kc e0 σ τ th o g M) (hwf : WS nn σ) (hpr : ∀ t, t ≤ 10 → pr t) (v : Int32) (hb9 : v < 0 ∨ nI (nP σ) ≤ v) : vx_Met l yX7_paymentAt wsX7_paymentAt ({ frames := 6, cells := 1, slots := 6, locals := 90 }) (mPre D kc A e0 M [.ref (g.1 7 0), .int v]) (va_Qq noQq (mB D A) A) (mXC D A (exP M 1)) 1 6 A := by
  refine vx_ofW (cc := cX7_paymentAt) (maxL := 2) (ret := (some (.object "CardPort$Payment"))) (by decide) rfl ?_
  intro p e s m args below meth c s₁ B hml htab hv
  obtain ⟨rfl, hw, hK, hA, hcx⟩ := hv
  have X : mX p s m _ c cX7_paymentAt 2 RX7 wsX7_paymentAt D kc := ⟨⟨B.exec, B.bytes, hml, findClass_of_methodNamed B.named, atoms_spec (ws := wsX7_paymentAt) B.pre⟩, hK⟩
  have hx := B.exec
  have hb := B.bytes
  have hr := B.returns
  have hlocks := B.notSynchronized
  have Y : mY D A M s s.heap [] := ⟨hw, va_S.rf⟩
  have hl := lv_entry ([.ref (g.1 7 0), .int v]) (n := 2) (Nat.le_of_ble_eq_true rfl)
  rw [lg_entry_eq]
  generalize (lg_sl ([.ref (g.1 7 0), .int v]) ++ List.replicate (2 - (lg_sl ([.ref (g.1 7 0), .int v])).length) Slot.unset).toArray = ls at hl ⊢
  have hl : lv_has ls 2 [(0, .ref (g.1 7 0)), (1, .int v)] := hl
  have hwn := hwf.2.2.2.1
  have hwd := hwf.1
  refine lv_iload_n hx hb dX7_paymentAt_0 rfl (lv_at hl 1 rfl) ?_
  refine lv_if_lt (tgt := 17) hx hb dX7_paymentAt_1 (by decide) (fun c1 => ?_) (fun c1 => ?_)
  · exact m_throwW X Y hcx hlt htab hlocks hl.1 1 (is := 267) (text := "no such payment") (by decide) th_fit.1 th_good1 th_ng1 (by decide) kwX7_paymentAt_1 kwX7_paymentAt_2 htX7_paymentAt_vx_atSRX7251ja3 dX7_paymentAt_17 dX7_paymentAt_20 dX7_paymentAt_21 dX7_paymentAt_24 dX7_paymentAt_27 (by decide) (Nat.le_of_ble_eq_true rfl) (by decide) (by decide) (by decide) (by decide) rfl
  · refine lv_iload_n hx hb dX7_paymentAt_4 rfl (lv_at hl 1 rfl) ?_
    refine lv_aload_n hx hb dX7_paymentAt_5 rfl (lv_at hl 0 rfl) ?_
    have hg1 := hG.f7 (hpr 7 (by decide))
    refine m_get (ref := "CardPort") (C := RX7) (T := TX7) (N := 8) (ci := 8) X Y htX7_paymentAt_wsX701 hg1 rfl 4 (by decide) kwX7_paymentAt_3 rfl (v := .ref (g.1 9 0)) rfl dX7_paymentAt_6 ?_
    have hg2 := hG.f9_0 (hpr 9 (by decide))
    refine m_rFi (As := []) (rest := [.int v]) X Y hA hcx (c_size l D kc A e0 M (g.1 9 0) (lar e0 σ g 0) (nP σ) (g.2.2.2 0) hg2) (va_cwF 0 X.1.2.2.2.2 gX7_paymentAt_Jx4a65c_size_8abf5_f94Jx4a65c rfl rfl rfl hcx.1.2.2.2.2.2.2.1 (by decide +kernel) ⟨Nat.le_of_ble_eq_true rfl, Nat.le_of_ble_eq_true rfl⟩) hg2 rfl rfl rfl hl.1 (Nat.le_of_ble_eq_true rfl) dX7_paymentAt_9 ⟨by decide, by decide⟩ (fun H locs Y => ?_)
    refine lv_icmp_lt (tgt := 28) hx hb dX7_paymentAt_14 (by decide) (fun c14 => ?_) (fun c14 => ?_)
    · exact (bad2 hb9 c1 c14).elim
    · exact m_throwW X Y hcx hlt htab hlocks hl.1 1 (is := 267) (text := "no such payment") (by decide) th_fit.1 th_good1 th_ng1 (by decide) kwX7_paymentAt_1 kwX7_paymentAt_2 htX7_paymentAt_vx_atSRX7251ja3 dX7_paymentAt_17 dX7_paymentAt_20 dX7_paymentAt_21 dX7_paymentAt_24 dX7_paymentAt_27 (by decide) (Nat.le_of_ble_eq_true rfl) (by decide) (by decide) (by decide) (by decide) rfl
theorem kwX7_captureAt_3 : Cond.fieldLink RX7 40 "CardPort" "captures" "Ljava/util/List;" ∈ wsX7_captureAt := List.mem_of_getElem? (i := 3) rfl
theorem htX7_captureAt_wsX701 : ∀ w ∈ wsX70, w ∈ wsX7_captureAt := fun _ h => List.mem_cons_of_mem _ (List.mem_append_left _ (List.mem_append_left _ (List.mem_append_right _ h)))
theorem kwX7_captureAt_4 : Cond.classLink RX7 129 "CardPort$Capture" ∈ wsX7_captureAt := List.mem_of_getElem? (i := 4) rfl
set_option maxHeartbeats 4000000 in
set_option maxRecDepth 100000 in
theorem c_captureAt (l : Launch) (hlt : l.stackTraces = false) (D : va_G) (kc : Nat → ClassId) (A : Nat → Prop) (e0 : Nat × Nat) (M : Mp) {pr : Nat → Prop} {σ τ : Sg} {th : Int32} {o : Int64} {g : Gh} {nn : Nat} (hG : G pr kc e0 σ τ th o g M) (hwf : WS nn σ) (hpr : ∀ t, t ≤ 10 → pr t) (j : Nat) (hj : j < nC σ) : vx_Met l yX7_captureAt wsX7_captureAt ({ frames := 6, cells := 1, slots := 6, locals := 90 }) (mPre D kc A e0 M [.ref (g.1 7 0), .int (nI j)]) (va_Qq (fun r M1 => r = some (g.1 1 j) ∧ M1 = M) (mB D A) A) (mXC D A noX) 1 6 A := by
  refine vx_ofW (cc := cX7_captureAt) (maxL := 2) (ret := (some (.object "CardPort$Capture"))) (by decide) rfl ?_
  intro p e s m args below meth c s₁ B hml htab hv
  obtain ⟨rfl, hw, hK, hA, hcx⟩ := hv
  have X : mX p s m _ c cX7_captureAt 2 RX7 wsX7_captureAt D kc := ⟨⟨B.exec, B.bytes, hml, findClass_of_methodNamed B.named, atoms_spec (ws := wsX7_captureAt) B.pre⟩, hK⟩
  have hx := B.exec
  have hb := B.bytes
  have hr := B.returns
  have hlocks := B.notSynchronized
  have Y : mY D A M s s.heap [] := ⟨hw, va_S.rf⟩
  have hl := lv_entry ([.ref (g.1 7 0), .int (nI j)]) (n := 2) (Nat.le_of_ble_eq_true rfl)
  rw [lg_entry_eq]
  generalize (lg_sl ([.ref (g.1 7 0), .int (nI j)]) ++ List.replicate (2 - (lg_sl ([.ref (g.1 7 0), .int (nI j)])).length) Slot.unset).toArray = ls at hl ⊢
  have hl : lv_has ls 2 [(0, .ref (g.1 7 0)), (1, .int (nI j))] := hl
  have hwn := hwf.2.2.2.1
  have hwd := hwf.1
  refine lv_iload_n hx hb dX7_captureAt_0 rfl (lv_at hl 1 rfl) ?_
  refine lv_if_lt (tgt := 17) hx hb dX7_captureAt_1 (by decide) (fun zq => absurd zq (nI_pos (by omega))) (fun _ => ?_)
  refine lv_iload_n hx hb dX7_captureAt_4 rfl (lv_at hl 1 rfl) ?_
  refine lv_aload_n hx hb dX7_captureAt_5 rfl (lv_at hl 0 rfl) ?_
  have hg1 := hG.f7 (hpr 7 (by decide))
  refine m_get (ref := "CardPort") (C := RX7) (T := TX7) (N := 8) (ci := 8) X Y htX7_captureAt_wsX701 hg1 rfl 5 (by decide) kwX7_captureAt_3 rfl (v := .ref (g.1 9 1)) rfl dX7_captureAt_6 ?_
  have hg2 := hG.f9_1 (hpr 9 (by decide))
  refine m_rFi (As := []) (rest := [.int (nI j)]) X Y hA hcx (c_size l D kc A e0 M (g.1 9 1) (lar e0 σ g 1) (nC σ) (g.2.2.2 1) hg2) (va_cwF 0 X.1.2.2.2.2 gX7_captureAt_Jx4a65c_size_8abf5_f94Jx4a65c rfl rfl rfl hcx.1.2.2.2.2.2.2.1 (by decide +kernel) ⟨Nat.le_of_ble_eq_true rfl, Nat.le_of_ble_eq_true rfl⟩) hg2 rfl rfl rfl hl.1 (Nat.le_of_ble_eq_true rfl) dX7_captureAt_9 ⟨by decide, by decide⟩ (fun H locs Y => ?_)
  refine n_icmp_lt hx hb 28 (by omega) (by omega) dX7_captureAt_14 (by decide) (fun _ => ?_) (fun zq => absurd zq (by omega))
  refine lv_aload_n hx hb dX7_captureAt_28 rfl (lv_at hl 0 rfl) ?_
  refine m_get (ref := "CardPort") (C := RX7) (T := TX7) (N := 8) (ci := 8) X Y htX7_captureAt_wsX701 hg1 rfl 5 (by decide) kwX7_captureAt_3 rfl (v := .ref (g.1 9 1)) rfl dX7_captureAt_29 ?_
  refine lv_iload_n hx hb dX7_captureAt_32 rfl (lv_at hl 1 rfl) ?_
  obtain ⟨-, el3b, el3c, el3d, el3e⟩ := hG.el1 (hpr 10 (by decide)) hj
  refine m_rFq (As := [.int (nI j)]) (rest := []) X Y hA hcx (c_get l D kc A e0 M (g.1 9 1) (lar e0 σ g 1) (nC σ) (g.2.1 1) j (g.1 1 j) (g.2.2.2 1) (g.2.2.1 1) hg2 el3b hj el3c (by omega) el3e) (va_cwF 1 X.1.2.2.2.2 gX7_captureAt_Jx4a65c_get_915e3_f235Jx4a65c rfl rfl rfl hcx.1.2.2.2.2.2.2.2.1 (by decide +kernel) ⟨Nat.le_of_ble_eq_true rfl, Nat.le_of_ble_eq_true rfl⟩) hg2 rfl rfl rfl hl.1 (Nat.le_of_ble_eq_true rfl) dX7_captureAt_33 ⟨by decide, by decide⟩ (fun H locs Y => ?_)
  have hg4 := hG.f1 (hpr 1 (by decide)) hj
  have hw5 := hwf.2.2.2.2.2.2.1 _ hj
  refine m_cast X Y (C := RX1) kwX7_captureAt_4 hg4 rfl dX7_captureAt_38 ?_
  refine vx_ret (m_aret X Y hr (Or.inl ⟨_, rfl⟩) hlocks (by decide) (by decide) (some (g.1 1 j)) ?_ dX7_captureAt_41)
  exact ⟨rfl, rfl⟩
theorem kwX7_captureAt_1 : Cond.classLink RX7 247 "java/lang/IndexOutOfBoundsException" ∈ wsX7_captureAt := List.mem_of_getElem? (i := 1) rfl
theorem kwX7_captureAt_2 : Cond.initialized "java/lang/IndexOutOfBoundsException" ∈ wsX7_captureAt := List.mem_of_getElem? (i := 2) rfl
theorem htX7_captureAt_vx_atSRX7251ja3 : ∀ w ∈ (vx_atS RX7 251 "java/lang/IndexOutOfBoundsException" ["java/lang/RuntimeException", "java/lang/Exception"]).filter goodWord, w ∈ wsX7_captureAt := fun _ h => List.mem_cons_of_mem _ (List.mem_append_right _ h)
set_option maxHeartbeats 4000000 in
set_option maxRecDepth 100000 in
theorem c_captureAt_bad (l : Launch) (hlt : l.stackTraces = false) (D : va_G) (kc : Nat → ClassId) (A : Nat → Prop) (e0 : Nat × Nat) (M : Mp) {pr : Nat → Prop} {σ τ : Sg} {th : Int32} {o : Int64} {g : Gh} {nn : Nat} (hG : G pr kc e0 σ τ th o g M) (hwf : WS nn σ) (hpr : ∀ t, t ≤ 10 → pr t) (v : Int32) (hb9 : v < 0 ∨ nI (nC σ) ≤ v) : vx_Met l yX7_captureAt wsX7_captureAt ({ frames := 6, cells := 1, slots := 6, locals := 90 }) (mPre D kc A e0 M [.ref (g.1 7 0), .int v]) (va_Qq noQq (mB D A) A) (mXC D A (exP M 1)) 1 6 A := by
  refine vx_ofW (cc := cX7_captureAt) (maxL := 2) (ret := (some (.object "CardPort$Capture"))) (by decide) rfl ?_
  intro p e s m args below meth c s₁ B hml htab hv
  obtain ⟨rfl, hw, hK, hA, hcx⟩ := hv
  have X : mX p s m _ c cX7_captureAt 2 RX7 wsX7_captureAt D kc := ⟨⟨B.exec, B.bytes, hml, findClass_of_methodNamed B.named, atoms_spec (ws := wsX7_captureAt) B.pre⟩, hK⟩
  have hx := B.exec
  have hb := B.bytes
  have hr := B.returns
  have hlocks := B.notSynchronized
  have Y : mY D A M s s.heap [] := ⟨hw, va_S.rf⟩
  have hl := lv_entry ([.ref (g.1 7 0), .int v]) (n := 2) (Nat.le_of_ble_eq_true rfl)
  rw [lg_entry_eq]
  generalize (lg_sl ([.ref (g.1 7 0), .int v]) ++ List.replicate (2 - (lg_sl ([.ref (g.1 7 0), .int v])).length) Slot.unset).toArray = ls at hl ⊢
  have hl : lv_has ls 2 [(0, .ref (g.1 7 0)), (1, .int v)] := hl
  have hwn := hwf.2.2.2.1
  have hwd := hwf.1
  refine lv_iload_n hx hb dX7_captureAt_0 rfl (lv_at hl 1 rfl) ?_
  refine lv_if_lt (tgt := 17) hx hb dX7_captureAt_1 (by decide) (fun c1 => ?_) (fun c1 => ?_)
  · exact m_throwW X Y hcx hlt htab hlocks hl.1 1 (is := 269) (text := "no such capture") (by decide) th_fit.1 th_good1 th_ng1 (by decide) kwX7_captureAt_1 kwX7_captureAt_2 htX7_captureAt_vx_atSRX7251ja3 dX7_captureAt_17 dX7_captureAt_20 dX7_captureAt_21 dX7_captureAt_24 dX7_captureAt_27 (by decide) (Nat.le_of_ble_eq_true rfl) (by decide) (by decide) (by decide) (by decide) rfl
  · refine lv_iload_n hx hb dX7_captureAt_4 rfl (lv_at hl 1 rfl) ?_
    refine lv_aload_n hx hb dX7_captureAt_5 rfl (lv_at hl 0 rfl) ?_
    have hg1 := hG.f7 (hpr 7 (by decide))
    refine m_get (ref := "CardPort") (C := RX7) (T := TX7) (N := 8) (ci := 8) X Y htX7_captureAt_wsX701 hg1 rfl 5 (by decide) kwX7_captureAt_3 rfl (v := .ref (g.1 9 1)) rfl dX7_captureAt_6 ?_
    have hg2 := hG.f9_1 (hpr 9 (by decide))
    refine m_rFi (As := []) (rest := [.int v]) X Y hA hcx (c_size l D kc A e0 M (g.1 9 1) (lar e0 σ g 1) (nC σ) (g.2.2.2 1) hg2) (va_cwF 0 X.1.2.2.2.2 gX7_captureAt_Jx4a65c_size_8abf5_f94Jx4a65c rfl rfl rfl hcx.1.2.2.2.2.2.2.1 (by decide +kernel) ⟨Nat.le_of_ble_eq_true rfl, Nat.le_of_ble_eq_true rfl⟩) hg2 rfl rfl rfl hl.1 (Nat.le_of_ble_eq_true rfl) dX7_captureAt_9 ⟨by decide, by decide⟩ (fun H locs Y => ?_)
    refine lv_icmp_lt (tgt := 28) hx hb dX7_captureAt_14 (by decide) (fun c14 => ?_) (fun c14 => ?_)
    · exact (bad2 hb9 c1 c14).elim
    · exact m_throwW X Y hcx hlt htab hlocks hl.1 1 (is := 269) (text := "no such capture") (by decide) th_fit.1 th_good1 th_ng1 (by decide) kwX7_captureAt_1 kwX7_captureAt_2 htX7_captureAt_vx_atSRX7251ja3 dX7_captureAt_17 dX7_captureAt_20 dX7_captureAt_21 dX7_captureAt_24 dX7_captureAt_27 (by decide) (Nat.le_of_ble_eq_true rfl) (by decide) (by decide) (by decide) (by decide) rfl
theorem kwX7_chargebackAt_3 : Cond.fieldLink RX7 43 "CardPort" "chargebacks" "Ljava/util/List;" ∈ wsX7_chargebackAt := List.mem_of_getElem? (i := 3) rfl
theorem htX7_chargebackAt_wsX701 : ∀ w ∈ wsX70, w ∈ wsX7_chargebackAt := fun _ h => List.mem_cons_of_mem _ (List.mem_append_left _ (List.mem_append_left _ (List.mem_append_right _ h)))
theorem kwX7_chargebackAt_4 : Cond.classLink RX7 174 "CardPort$Chargeback" ∈ wsX7_chargebackAt := List.mem_of_getElem? (i := 4) rfl
set_option maxHeartbeats 4000000 in
set_option maxRecDepth 100000 in
theorem c_chargebackAt (l : Launch) (hlt : l.stackTraces = false) (D : va_G) (kc : Nat → ClassId) (A : Nat → Prop) (e0 : Nat × Nat) (M : Mp) {pr : Nat → Prop} {σ τ : Sg} {th : Int32} {o : Int64} {g : Gh} {nn : Nat} (hG : G pr kc e0 σ τ th o g M) (hwf : WS nn σ) (hpr : ∀ t, t ≤ 10 → pr t) (j : Nat) (hj : j < nB σ) : vx_Met l yX7_chargebackAt wsX7_chargebackAt ({ frames := 6, cells := 1, slots := 6, locals := 90 }) (mPre D kc A e0 M [.ref (g.1 7 0), .int (nI j)]) (va_Qq (fun r M1 => r = some (g.1 3 j) ∧ M1 = M) (mB D A) A) (mXC D A noX) 1 6 A := by
  refine vx_ofW (cc := cX7_chargebackAt) (maxL := 2) (ret := (some (.object "CardPort$Chargeback"))) (by decide) rfl ?_
  intro p e s m args below meth c s₁ B hml htab hv
  obtain ⟨rfl, hw, hK, hA, hcx⟩ := hv
  have X : mX p s m _ c cX7_chargebackAt 2 RX7 wsX7_chargebackAt D kc := ⟨⟨B.exec, B.bytes, hml, findClass_of_methodNamed B.named, atoms_spec (ws := wsX7_chargebackAt) B.pre⟩, hK⟩
  have hx := B.exec
  have hb := B.bytes
  have hr := B.returns
  have hlocks := B.notSynchronized
  have Y : mY D A M s s.heap [] := ⟨hw, va_S.rf⟩
  have hl := lv_entry ([.ref (g.1 7 0), .int (nI j)]) (n := 2) (Nat.le_of_ble_eq_true rfl)
  rw [lg_entry_eq]
  generalize (lg_sl ([.ref (g.1 7 0), .int (nI j)]) ++ List.replicate (2 - (lg_sl ([.ref (g.1 7 0), .int (nI j)])).length) Slot.unset).toArray = ls at hl ⊢
  have hl : lv_has ls 2 [(0, .ref (g.1 7 0)), (1, .int (nI j))] := hl
  have hwn := hwf.2.2.2.1
  have hwd := hwf.1
  refine lv_iload_n hx hb dX7_chargebackAt_0 rfl (lv_at hl 1 rfl) ?_
  refine lv_if_lt (tgt := 17) hx hb dX7_chargebackAt_1 (by decide) (fun zq => absurd zq (nI_pos (by omega))) (fun _ => ?_)
  refine lv_iload_n hx hb dX7_chargebackAt_4 rfl (lv_at hl 1 rfl) ?_
  refine lv_aload_n hx hb dX7_chargebackAt_5 rfl (lv_at hl 0 rfl) ?_
  have hg1 := hG.f7 (hpr 7 (by decide))
  refine m_get (ref := "CardPort") (C := RX7) (T := TX7) (N := 8) (ci := 8) X Y htX7_chargebackAt_wsX701 hg1 rfl 6 (by decide) kwX7_chargebackAt_3 rfl (v := .ref (g.1 9 2)) rfl dX7_chargebackAt_6 ?_
  have hg2 := hG.f9_2 (hpr 9 (by decide))
  refine m_rFi (As := []) (rest := [.int (nI j)]) X Y hA hcx (c_size l D kc A e0 M (g.1 9 2) (lar e0 σ g 2) (nB σ) (g.2.2.2 2) hg2) (va_cwF 0 X.1.2.2.2.2 gX7_chargebackAt_Jx4a65c_size_8abf5_f94Jx4a65c rfl rfl rfl hcx.1.2.2.2.2.2.2.1 (by decide +kernel) ⟨Nat.le_of_ble_eq_true rfl, Nat.le_of_ble_eq_true rfl⟩) hg2 rfl rfl rfl hl.1 (Nat.le_of_ble_eq_true rfl) dX7_chargebackAt_9 ⟨by decide, by decide⟩ (fun H locs Y => ?_)
  refine n_icmp_lt hx hb 28 (by omega) (by omega) dX7_chargebackAt_14 (by decide) (fun _ => ?_) (fun zq => absurd zq (by omega))
  refine lv_aload_n hx hb dX7_chargebackAt_28 rfl (lv_at hl 0 rfl) ?_
  refine m_get (ref := "CardPort") (C := RX7) (T := TX7) (N := 8) (ci := 8) X Y htX7_chargebackAt_wsX701 hg1 rfl 6 (by decide) kwX7_chargebackAt_3 rfl (v := .ref (g.1 9 2)) rfl dX7_chargebackAt_29 ?_
  refine lv_iload_n hx hb dX7_chargebackAt_32 rfl (lv_at hl 1 rfl) ?_
  obtain ⟨-, el3b, el3c, el3d, el3e⟩ := hG.el2 (hpr 10 (by decide)) hj
  refine m_rFq (As := [.int (nI j)]) (rest := []) X Y hA hcx (c_get l D kc A e0 M (g.1 9 2) (lar e0 σ g 2) (nB σ) (g.2.1 2) j (g.1 3 j) (g.2.2.2 2) (g.2.2.1 2) hg2 el3b hj el3c (by omega) el3e) (va_cwF 1 X.1.2.2.2.2 gX7_chargebackAt_Jx4a65c_get_915e3_f235Jx4a65c rfl rfl rfl hcx.1.2.2.2.2.2.2.2.1 (by decide +kernel) ⟨Nat.le_of_ble_eq_true rfl, Nat.le_of_ble_eq_true rfl⟩) hg2 rfl rfl rfl hl.1 (Nat.le_of_ble_eq_true rfl) dX7_chargebackAt_33 ⟨by decide, by decide⟩ (fun H locs Y => ?_)
  have hg4 := hG.f3 (hpr 3 (by decide)) hj
  have hw5 := hwf.2.2.2.2.2.2.2.2 _ hj
  refine m_cast X Y (C := RX3) kwX7_chargebackAt_4 hg4 rfl dX7_chargebackAt_38 ?_
  refine vx_ret (m_aret X Y hr (Or.inl ⟨_, rfl⟩) hlocks (by decide) (by decide) (some (g.1 3 j)) ?_ dX7_chargebackAt_41)
  exact ⟨rfl, rfl⟩
theorem kwX7_chargebackAt_1 : Cond.classLink RX7 247 "java/lang/IndexOutOfBoundsException" ∈ wsX7_chargebackAt := List.mem_of_getElem? (i := 1) rfl
theorem kwX7_chargebackAt_2 : Cond.initialized "java/lang/IndexOutOfBoundsException" ∈ wsX7_chargebackAt := List.mem_of_getElem? (i := 2) rfl
theorem htX7_chargebackAt_vx_atSRX7251ja3 : ∀ w ∈ (vx_atS RX7 251 "java/lang/IndexOutOfBoundsException" ["java/lang/RuntimeException", "java/lang/Exception"]).filter goodWord, w ∈ wsX7_chargebackAt := fun _ h => List.mem_cons_of_mem _ (List.mem_append_right _ h)
set_option maxHeartbeats 4000000 in
set_option maxRecDepth 100000 in
theorem c_chargebackAt_bad (l : Launch) (hlt : l.stackTraces = false) (D : va_G) (kc : Nat → ClassId) (A : Nat → Prop) (e0 : Nat × Nat) (M : Mp) {pr : Nat → Prop} {σ τ : Sg} {th : Int32} {o : Int64} {g : Gh} {nn : Nat} (hG : G pr kc e0 σ τ th o g M) (hwf : WS nn σ) (hpr : ∀ t, t ≤ 10 → pr t) (v : Int32) (hb9 : v < 0 ∨ nI (nB σ) ≤ v) : vx_Met l yX7_chargebackAt wsX7_chargebackAt ({ frames := 6, cells := 1, slots := 6, locals := 90 }) (mPre D kc A e0 M [.ref (g.1 7 0), .int v]) (va_Qq noQq (mB D A) A) (mXC D A (exP M 1)) 1 6 A := by
  refine vx_ofW (cc := cX7_chargebackAt) (maxL := 2) (ret := (some (.object "CardPort$Chargeback"))) (by decide) rfl ?_
  intro p e s m args below meth c s₁ B hml htab hv
  obtain ⟨rfl, hw, hK, hA, hcx⟩ := hv
  have X : mX p s m _ c cX7_chargebackAt 2 RX7 wsX7_chargebackAt D kc := ⟨⟨B.exec, B.bytes, hml, findClass_of_methodNamed B.named, atoms_spec (ws := wsX7_chargebackAt) B.pre⟩, hK⟩
  have hx := B.exec
  have hb := B.bytes
  have hr := B.returns
  have hlocks := B.notSynchronized
  have Y : mY D A M s s.heap [] := ⟨hw, va_S.rf⟩
  have hl := lv_entry ([.ref (g.1 7 0), .int v]) (n := 2) (Nat.le_of_ble_eq_true rfl)
  rw [lg_entry_eq]
  generalize (lg_sl ([.ref (g.1 7 0), .int v]) ++ List.replicate (2 - (lg_sl ([.ref (g.1 7 0), .int v])).length) Slot.unset).toArray = ls at hl ⊢
  have hl : lv_has ls 2 [(0, .ref (g.1 7 0)), (1, .int v)] := hl
  have hwn := hwf.2.2.2.1
  have hwd := hwf.1
  refine lv_iload_n hx hb dX7_chargebackAt_0 rfl (lv_at hl 1 rfl) ?_
  refine lv_if_lt (tgt := 17) hx hb dX7_chargebackAt_1 (by decide) (fun c1 => ?_) (fun c1 => ?_)
  · exact m_throwW X Y hcx hlt htab hlocks hl.1 1 (is := 271) (text := "no such chargeback") (by decide) th_fit.1 th_good1 th_ng1 (by decide) kwX7_chargebackAt_1 kwX7_chargebackAt_2 htX7_chargebackAt_vx_atSRX7251ja3 dX7_chargebackAt_17 dX7_chargebackAt_20 dX7_chargebackAt_21 dX7_chargebackAt_24 dX7_chargebackAt_27 (by decide) (Nat.le_of_ble_eq_true rfl) (by decide) (by decide) (by decide) (by decide) rfl
  · refine lv_iload_n hx hb dX7_chargebackAt_4 rfl (lv_at hl 1 rfl) ?_
    refine lv_aload_n hx hb dX7_chargebackAt_5 rfl (lv_at hl 0 rfl) ?_
    have hg1 := hG.f7 (hpr 7 (by decide))
    refine m_get (ref := "CardPort") (C := RX7) (T := TX7) (N := 8) (ci := 8) X Y htX7_chargebackAt_wsX701 hg1 rfl 6 (by decide) kwX7_chargebackAt_3 rfl (v := .ref (g.1 9 2)) rfl dX7_chargebackAt_6 ?_
    have hg2 := hG.f9_2 (hpr 9 (by decide))
    refine m_rFi (As := []) (rest := [.int v]) X Y hA hcx (c_size l D kc A e0 M (g.1 9 2) (lar e0 σ g 2) (nB σ) (g.2.2.2 2) hg2) (va_cwF 0 X.1.2.2.2.2 gX7_chargebackAt_Jx4a65c_size_8abf5_f94Jx4a65c rfl rfl rfl hcx.1.2.2.2.2.2.2.1 (by decide +kernel) ⟨Nat.le_of_ble_eq_true rfl, Nat.le_of_ble_eq_true rfl⟩) hg2 rfl rfl rfl hl.1 (Nat.le_of_ble_eq_true rfl) dX7_chargebackAt_9 ⟨by decide, by decide⟩ (fun H locs Y => ?_)
    refine lv_icmp_lt (tgt := 28) hx hb dX7_chargebackAt_14 (by decide) (fun c14 => ?_) (fun c14 => ?_)
    · exact (bad2 hb9 c1 c14).elim
    · exact m_throwW X Y hcx hlt htab hlocks hl.1 1 (is := 271) (text := "no such chargeback") (by decide) th_fit.1 th_good1 th_ng1 (by decide) kwX7_chargebackAt_1 kwX7_chargebackAt_2 htX7_chargebackAt_vx_atSRX7251ja3 dX7_chargebackAt_17 dX7_chargebackAt_20 dX7_chargebackAt_21 dX7_chargebackAt_24 dX7_chargebackAt_27 (by decide) (Nat.le_of_ble_eq_true rfl) (by decide) (by decide) (by decide) (by decide) rfl
theorem kwX7_limitOf_1 : Cond.fieldLink RX7 40 "CardPort" "captures" "Ljava/util/List;" ∈ wsX7_limitOf := List.mem_of_getElem? (i := 1) rfl
theorem htX7_limitOf_wsX701 : ∀ w ∈ wsX70, w ∈ wsX7_limitOf := fun _ h => List.mem_cons_of_mem _ (List.mem_append_left _ (List.mem_append_left _ (List.mem_append_left _ (List.mem_append_right _ h))))
theorem kwX7_limitOf_6 : Cond.methodLink RX7 280 Lib.Math.max.name ∈ wsX7_limitOf := List.mem_of_getElem? (i := 6) rfl
theorem kwX7_limitOf_7 : Cond.static Lib.Math.max.name ∈ wsX7_limitOf := List.mem_of_getElem? (i := 7) rfl
theorem kwX7_limitOf_8 : Cond.initialized "java/lang/Math" ∈ wsX7_limitOf := List.mem_of_getElem? (i := 8) rfl
theorem kwX7_limitOf_9 : Cond.code Lib.Math.max.name Lib.Math.max.code 2 (some .int) ∈ wsX7_limitOf := List.mem_of_getElem? (i := 9) rfl
theorem kwX7_limitOf_2 : Cond.classLink RX7 129 "CardPort$Capture" ∈ wsX7_limitOf := List.mem_of_getElem? (i := 2) rfl
theorem kwX7_limitOf_3 : Cond.fieldLink RX7 220 "CardPort$Capture" "payment" "LCardPort$Payment;" ∈ wsX7_limitOf := List.mem_of_getElem? (i := 3) rfl
theorem htX7_limitOf_wsX102 : ∀ w ∈ wsX10, w ∈ wsX7_limitOf := fun _ h => List.mem_cons_of_mem _ (List.mem_append_left _ (List.mem_append_left _ (List.mem_append_right _ h)))
theorem kwX7_limitOf_4 : Cond.fieldLink RX7 205 "CardPort$Payment" "card" "LCardPort$Card;" ∈ wsX7_limitOf := List.mem_of_getElem? (i := 4) rfl
theorem htX7_limitOf_wsX503 : ∀ w ∈ wsX50, w ∈ wsX7_limitOf := fun _ h => List.mem_cons_of_mem _ (List.mem_append_left _ (List.mem_append_right _ h))
theorem kwX7_limitOf_5 : Cond.fieldLink RX7 148 "CardPort$Capture" "amount" "I" ∈ wsX7_limitOf := List.mem_of_getElem? (i := 5) rfl
set_option maxHeartbeats 4000000 in
set_option maxRecDepth 100000 in
theorem c_limitOf (l : Launch) (D : va_G) (kc : Nat → ClassId) (A : Nat → Prop) (e0 : Nat × Nat) (M : Mp) {pr : Nat → Prop} {σ τ : Sg} {th : Int32} {o : Int64} {g : Gh} {nn : Nat} (hG : G pr kc e0 σ τ th o g M) (hwf : WS nn σ) (hpr : ∀ t, t ≤ 10 → pr t) (cd : Nat) (hcd : cd < 12) : Met l yX7_limitOf wsX7_limitOf ({ frames := 3, cells := 0, slots := 0, locals := 64 }) (mPre D kc A e0 M [.ref (g.1 7 0), .ref (g.1 2 cd)]) (va_Qi (fun r M1 => r = nI (limN σ cd) ∧ M1 = M) (mB D A) A) 0 0 A := by
  refine Met.ofW (cc := cX7_limitOf) (maxL := 6) (ret := (some .int)) (by decide) rfl ?_
  intro p e s m args below meth c s₁ B hml hv
  obtain ⟨rfl, hw, hK, hA, hcx⟩ := hv
  have X : mX p s m _ c cX7_limitOf 6 RX7 wsX7_limitOf D kc := ⟨⟨B.exec, B.bytes, hml, findClass_of_methodNamed B.named, atoms_spec (ws := wsX7_limitOf) B.pre⟩, hK⟩
  have hx := B.exec
  have hb := B.bytes
  have hr := B.returns
  have hlocks := B.notSynchronized
  have Y : mY D A M s s.heap [] := ⟨hw, va_S.rf⟩
  have hl := lv_entry ([.ref (g.1 7 0), .ref (g.1 2 cd)]) (n := 6) (Nat.le_of_ble_eq_true rfl)
  rw [lg_entry_eq]
  generalize (lg_sl ([.ref (g.1 7 0), .ref (g.1 2 cd)]) ++ List.replicate (6 - (lg_sl ([.ref (g.1 7 0), .ref (g.1 2 cd)])).length) Slot.unset).toArray = ls at hl ⊢
  have hl : lv_has ls 6 [(0, .ref (g.1 7 0)), (1, .ref (g.1 2 cd))] := hl
  have hwn := hwf.2.2.2.1
  have hwd := hwf.1
  refine n_iconst hx hb 0 dX7_limitOf_0 (by decide) ?_
  refine lv_istore_n (lv' := [(2, .int (nI 0)), (0, .ref (g.1 7 0)), (1, .ref (g.1 2 cd))]) hx hb dX7_limitOf_1 rfl hl (by decide) rfl (fun ls hl => ?_)
  refine n_iconst hx hb 0 dX7_limitOf_2 (by decide) ?_
  refine lv_istore_n (lv' := [(3, .int (nI 0)), (2, .int (nI 0)), (0, .ref (g.1 7 0)), (1, .ref (g.1 2 cd))]) hx hb dX7_limitOf_3 rfl hl (by decide) rfl (fun ls hl => ?_)
  refine lv_aload_n hx hb dX7_limitOf_4 rfl (lv_at hl 2 rfl) ?_
  have hg1 := hG.f7 (hpr 7 (by decide))
  refine m_get (ref := "CardPort") (C := RX7) (T := TX7) (N := 8) (ci := 8) X Y htX7_limitOf_wsX701 hg1 rfl 5 (by decide) kwX7_limitOf_1 rfl (v := .ref (g.1 9 1)) rfl dX7_limitOf_5 ?_
  have hg2 := hG.f9_1 (hpr 9 (by decide))
  refine m_rFi (As := []) (rest := []) X Y hA hcx (c_size l D kc A e0 M (g.1 9 1) (lar e0 σ g 1) (nC σ) (g.2.2.2 1) hg2) (va_cwF 0 X.1.2.2.2.2 gX7_limitOf_Jx4a65c_size_8abf5_f94Jx4a65c rfl rfl rfl hcx.1.2.2.2.2.2.2.1 (by decide +kernel) ⟨Nat.le_of_ble_eq_true rfl, Nat.le_of_ble_eq_true rfl⟩) hg2 rfl rfl rfl hl.1 (Nat.le_of_ble_eq_true rfl) dX7_limitOf_8 ⟨by decide, by decide⟩ (fun H locs Y => ?_)
  refine n_iconst hx hb 1 dX7_limitOf_13 (by decide) ?_
  refine lv_isub hx hb dX7_limitOf_14 ?_
  refine lv_istore (lv' := [(4, .int ((nI (nC σ)) - (nI 1))), (3, .int (nI 0)), (2, .int (nI 0)), (0, .ref (g.1 7 0)), (1, .ref (g.1 2 cd))]) hx hb dX7_limitOf_15 hl (by decide) rfl (fun ls hl => ?_)
  obtain ⟨k, hk0⟩ : ∃ k : Nat, k = nC σ := ⟨_, rfl⟩
  obtain ⟨sm, hs0⟩ : ∃ sm : Nat, sm = 0 := ⟨_, rfl⟩
  obtain ⟨fn, hf0⟩ : ∃ fn : Nat, fn = 0 := ⟨_, rfl⟩
  replace hl : lv_has ls 6 [(4, .int (nI k - nI 1)), (3, .int (nI fn)), (2, .int (nI sm)), (0, .ref (g.1 7 0)), (1, .ref (g.1 2 cd))] := by rw [hk0, hs0, hf0]; exact hl
  replace hl : lv_has ls 6 [(0, .ref (g.1 7 0)), (1, .ref (g.1 2 cd)), (2, .int (nI sm)), (3, .int (nI fn)), (4, .int (nI k - nI 1))] := lv_sub hl [3, 4, 2, 1, 0] rfl
  have hinv : lmL σ cd k sm fn = lmL σ cd (nC σ) 0 0 := by rw [hk0, hs0, hf0]
  have hk : k ≤ nC σ := by omega
  have hsm : sm ≤ 100000 * fn := by omega
  have hfn : fn ≤ 5 := by omega
  clear hk0 hs0 hf0
  obtain ⟨fu, hfu⟩ : ∃ fu : Nat, fu = k := ⟨_, rfl⟩
  induction fu generalizing k sm fn H locs ls with
  | zero =>
    have hk0 : k = 0 := by omega
    subst hk0
    have hlim : limN σ cd = limO (sm, fn) := by unfold limN; rw [← hinv]; rfl
    refine lv_iload hx hb dX7_limitOf_17 (lv_at hl 4 rfl) ?_
    refine lv_if_lt (tgt := 72) hx hb dX7_limitOf_19 (by decide) (fun _ => ?_) (fun zq => absurd nI_m0 zq)
    refine lv_iload_n hx hb dX7_limitOf_72 rfl (lv_at hl 3 rfl) ?_
    refine n_if_ne hx hb 80 (by omega) dX7_limitOf_73 (by decide) (fun c73 => ?_) (fun c73 => ?_)
    · refine n_sipush hx hb 500 dX7_limitOf_80 (by decide) ?_
      refine n_iconst hx hb 3 dX7_limitOf_83 (by decide) ?_
      refine lv_iload_n hx hb dX7_limitOf_84 rfl (lv_at hl 2 rfl) ?_
      refine n_imul hx hb dX7_limitOf_85 ?_
      refine lv_iload_n hx hb dX7_limitOf_86 rfl (lv_at hl 3 rfl) ?_
      refine n_idiv hx hb (by omega) (by omega) (by omega) dX7_limitOf_87 ?_
      have hdv : 3 * sm / fn ≤ 3 * sm := Nat.div_le_self _ _
      refine n_mmax X hl.1 kwX7_limitOf_6 kwX7_limitOf_7 kwX7_limitOf_8 kwX7_limitOf_9 (Nat.le_of_ble_eq_true rfl) (Nat.le_of_ble_eq_true rfl) (by decide) (by decide) (by omega) (by omega) dX7_limitOf_88 ?_
      refine m_iret X Y hr hlocks (by decide) (by decide) ?_ dX7_limitOf_91
      refine ⟨?_, rfl⟩
      rw [hlim]
      have hz : ¬ fn = 0 := by omega
      simp [limO, hz]
    · refine n_sipush hx hb 10000 dX7_limitOf_76 (by decide) ?_
      refine m_iret X Y hr hlocks (by decide) (by decide) ?_ dX7_limitOf_79
      refine ⟨?_, rfl⟩
      rw [hlim]
      have hz : fn = 0 := by omega
      simp [limO, hz]
  | succ fu ih =>
    obtain ⟨k, rfl⟩ : ∃ k2 : Nat, k = k2 + 1 := ⟨k - 1, by omega⟩
    rw [nI_m1] at hl
    refine lv_iload hx hb dX7_limitOf_17 (lv_at hl 4 rfl) ?_
    refine lv_if_lt (tgt := 72) hx hb dX7_limitOf_19 (by decide) (fun zq => absurd zq (nI_pos (by omega))) (fun _ => ?_)
    refine lv_iload_n hx hb dX7_limitOf_22 rfl (lv_at hl 3 rfl) ?_
    refine n_iconst hx hb 5 dX7_limitOf_23 (by decide) ?_
    refine n_icmp_ge hx hb 72 (by omega) (by omega) dX7_limitOf_24 (by decide) (fun c24 => ?_) (fun c24 => ?_)
    · have hlim : limN σ cd = limO (sm, fn) := by unfold limN; rw [← hinv]; rw [lmL, if_neg (by omega)]
      refine lv_iload_n hx hb dX7_limitOf_72 rfl (lv_at hl 3 rfl) ?_
      refine n_if_ne hx hb 80 (by omega) dX7_limitOf_73 (by decide) (fun c73 => ?_) (fun c73 => ?_)
      · refine n_sipush hx hb 500 dX7_limitOf_80 (by decide) ?_
        refine n_iconst hx hb 3 dX7_limitOf_83 (by decide) ?_
        refine lv_iload_n hx hb dX7_limitOf_84 rfl (lv_at hl 2 rfl) ?_
        refine n_imul hx hb dX7_limitOf_85 ?_
        refine lv_iload_n hx hb dX7_limitOf_86 rfl (lv_at hl 3 rfl) ?_
        refine n_idiv hx hb (by omega) (by omega) (by omega) dX7_limitOf_87 ?_
        have hdv : 3 * sm / fn ≤ 3 * sm := Nat.div_le_self _ _
        refine n_mmax X hl.1 kwX7_limitOf_6 kwX7_limitOf_7 kwX7_limitOf_8 kwX7_limitOf_9 (Nat.le_of_ble_eq_true rfl) (Nat.le_of_ble_eq_true rfl) (by decide) (by decide) (by omega) (by omega) dX7_limitOf_88 ?_
        refine m_iret X Y hr hlocks (by decide) (by decide) ?_ dX7_limitOf_91
        refine ⟨?_, rfl⟩
        rw [hlim]
        have hz : ¬ fn = 0 := by omega
        simp [limO, hz]
      · refine n_sipush hx hb 10000 dX7_limitOf_76 (by decide) ?_
        refine m_iret X Y hr hlocks (by decide) (by decide) ?_ dX7_limitOf_79
        refine ⟨?_, rfl⟩
        rw [hlim]
        have hz : fn = 0 := by omega
        simp [limO, hz]
    · refine lv_aload_n hx hb dX7_limitOf_27 rfl (lv_at hl 0 rfl) ?_
      refine m_get (ref := "CardPort") (C := RX7) (T := TX7) (N := 8) (ci := 8) X Y htX7_limitOf_wsX701 hg1 rfl 5 (by decide) kwX7_limitOf_1 rfl (v := .ref (g.1 9 1)) rfl dX7_limitOf_28 ?_
      refine lv_iload hx hb dX7_limitOf_31 (lv_at hl 4 rfl) ?_
      obtain ⟨-, el3b, el3c, el3d, el3e⟩ := hG.el1 (hpr 10 (by decide)) (show k < nC σ by omega)
      refine m_rFq (As := [.int (nI k)]) (rest := []) X Y hA hcx (c_get l D kc A e0 M (g.1 9 1) (lar e0 σ g 1) (nC σ) (g.2.1 1) k (g.1 1 k) (g.2.2.2 1) (g.2.2.1 1) hg2 el3b (show k < nC σ by omega) el3c (by omega) el3e) (va_cwF 1 X.1.2.2.2.2 gX7_limitOf_Jx4a65c_get_915e3_f235Jx4a65c rfl rfl rfl hcx.1.2.2.2.2.2.2.2.1 (by decide +kernel) ⟨Nat.le_of_ble_eq_true rfl, Nat.le_of_ble_eq_true rfl⟩) hg2 rfl rfl rfl hl.1 (Nat.le_of_ble_eq_true rfl) dX7_limitOf_33 ⟨by decide, by decide⟩ (fun H locs Y => ?_)
      have hg4 := hG.f1 (hpr 1 (by decide)) (show k < nC σ by omega)
      have hw5 := hwf.2.2.2.2.2.2.1 _ (show k < nC σ by omega)
      refine m_cast X Y (C := RX1) kwX7_limitOf_2 hg4 rfl dX7_limitOf_38 ?_
      refine lv_astore (lv' := [(5, .ref (g.1 1 k)), (0, .ref (g.1 7 0)), (1, .ref (g.1 2 cd)), (2, .int (nI sm)), (3, .int (nI fn)), (4, .int (nI k))]) hx hb dX7_limitOf_41 hl (by decide) rfl (fun ls hl => ?_)
      refine lv_aload hx hb dX7_limitOf_43 (lv_at hl 0 rfl) ?_
      refine m_get (ref := "CardPort$Capture") (C := RX1) (T := TX1) (N := 5) (ci := 2) X Y htX7_limitOf_wsX102 hg4 rfl 1 (by decide) kwX7_limitOf_3 rfl (v := .ref (g.1 5 (σ.1 12 k))) rfl dX7_limitOf_45 ?_
      have hg6 := hG.f5 (hpr 5 (by decide)) (hwf.2.2.2.2.2.2.1 _ (show k < nC σ by omega)).1
      have hw7 := hwf.2.2.2.2.1 _ (hwf.2.2.2.2.2.2.1 _ (show k < nC σ by omega)).1
      refine m_get (ref := "CardPort$Payment") (C := RX5) (T := TX5) (N := 7) (ci := 6) X Y htX7_limitOf_wsX503 hg6 rfl 1 (by decide) kwX7_limitOf_4 rfl (v := .ref (g.1 2 (σ.1 5 (σ.1 12 k)))) rfl dX7_limitOf_48 ?_
      refine lv_aload_n hx hb dX7_limitOf_51 rfl (lv_at hl 2 rfl) ?_
      have hacm : g.1 2 (σ.1 5 (σ.1 12 k)) = g.1 2 cd ↔ σ.1 5 (σ.1 12 k) = cd := ⟨fun zq => (hG.2.1 2 _ 2 _ ⟨hpr 2 (by decide), (hwf.2.2.2.2.1 _ (hwf.2.2.2.2.2.2.1 _ (show k < nC σ by omega)).1).1⟩ ⟨hpr 2 (by decide), hcd⟩ zq).2, fun zq => by rw [zq]⟩
      refine lv_acmp_ne (rx := some (g.1 2 (σ.1 5 (σ.1 12 k)))) (ry := some (g.1 2 cd)) (tgt := 66) hx hb dX7_limitOf_52 (by decide) (fun c52 => ?_) (fun c52 => ?_)
      · refine lv_iinc (v := nI k - nI 1) (lv' := [(4, .int (nI k - nI 1)), (5, .ref (g.1 1 k)), (0, .ref (g.1 7 0)), (1, .ref (g.1 2 cd)), (2, .int (nI sm)), (3, .int (nI fn))]) hx hb dX7_limitOf_66 hl (k := 5) rfl (nI_m1' k) (by decide) rfl (fun ls hl => ?_)
        refine lv_goto (tgt := 17) hx hb dX7_limitOf_69 (by decide) ?_
        exact ih (k := k) (sm := sm) (fn := fn) (Y := Y) (hl := (lv_sub hl [2, 3, 4, 5, 0] rfl)) (hfu := by omega) (hk := by omega) (hsm := by omega) (hfn := by omega) (hinv := by rw [← hinv]; conv => rhs; rw [lmL, if_pos (by omega), if_neg (fun zq => c52 (congrArg some (hacm.mpr zq)))])
      · refine lv_iload_n hx hb dX7_limitOf_55 rfl (lv_at hl 3 rfl) ?_
        refine lv_aload hx hb dX7_limitOf_56 (lv_at hl 0 rfl) ?_
        refine m_get (ref := "CardPort$Capture") (C := RX1) (T := TX1) (N := 5) (ci := 2) X Y htX7_limitOf_wsX102 hg4 rfl 2 (by decide) kwX7_limitOf_5 rfl (v := .int (nI (σ.1 13 k))) rfl dX7_limitOf_58 ?_
        refine n_iadd hx hb dX7_limitOf_61 ?_
        refine lv_istore_n (lv' := [(2, .int (nI (sm + (σ.1 13 k)))), (5, .ref (g.1 1 k)), (0, .ref (g.1 7 0)), (1, .ref (g.1 2 cd)), (3, .int (nI fn)), (4, .int (nI k))]) hx hb dX7_limitOf_62 rfl hl (by decide) rfl (fun ls hl => ?_)
        refine lv_iinc (v := (nI (fn + 1))) (lv' := [(3, .int (nI (fn + 1))), (2, .int (nI (sm + (σ.1 13 k)))), (5, .ref (g.1 1 k)), (0, .ref (g.1 7 0)), (1, .ref (g.1 2 cd)), (4, .int (nI k))]) hx hb dX7_limitOf_63 hl (k := 4) rfl (nI_add _ 1) (by decide) rfl (fun ls hl => ?_)
        refine lv_iinc (v := nI k - nI 1) (lv' := [(4, .int (nI k - nI 1)), (3, .int (nI (fn + 1))), (2, .int (nI (sm + (σ.1 13 k)))), (5, .ref (g.1 1 k)), (0, .ref (g.1 7 0)), (1, .ref (g.1 2 cd))]) hx hb dX7_limitOf_66 hl (k := 5) rfl (nI_m1' k) (by decide) rfl (fun ls hl => ?_)
        refine lv_goto (tgt := 17) hx hb dX7_limitOf_69 (by decide) ?_
        exact ih (k := k) (sm := sm + σ.1 13 k) (fn := fn + 1) (Y := Y) (hl := (lv_sub hl [4, 5, 2, 1, 0] rfl)) (hfu := by omega) (hk := by omega) (hsm := by omega) (hfn := by omega) (hinv := by rw [← hinv]; conv => rhs; rw [lmL, if_pos (by omega), if_pos (hacm.mp (Option.some.inj c52))])
