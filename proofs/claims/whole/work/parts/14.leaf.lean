def bN (c : Prop) [Decidable c] : Int32 := if c then nI 1 else nI 0
theorem bN_t {c : Prop} [Decidable c] (h : c) : bN c = nI 1 := if_pos h
theorem bN_f {c : Prop} [Decidable c] (h : ¬ c) : bN c = nI 0 := if_neg h
theorem ne_fresh {M : Mp} {a q : Nat} {e : va_E} (hm : M a = some e) (hq : M q = none) : a ≠ q := fun z => by rw [z, hq] at hm; cases hm
def feeN (cp rt v : Nat) : Nat := if v * rt / 1000 < cp then v * rt / 1000 else cp
abbrev dueB (x1 : Int32) (a1 n1 : Nat) (x2 : Int32) (a2 n2 : Nat) : Prop := x1 < x2 ∨ (x1 = x2 ∧ (a2 < a1 ∨ (a1 = a2 ∧ n1 < n2)))
def eil (st u td : Nat) : Nat := if st ≤ 1 ∧ u < td then st + 3 else st
def shN (sb cb b : Nat) (c : Int32) : Int32 := (if sb = b then nI 0 + c else nI 0) - (if cb = b then c else 0)
theorem shN_tt {sb cb b : Nat} {c : Int32} (h1 : some sb = some b) (h2 : some cb = some b) : shN sb cb b c = nI 0 + c - c := by
  unfold shN; rw [if_pos (Option.some.inj h1), if_pos (Option.some.inj h2)]
theorem shN_tf {sb cb b : Nat} {c : Int32} (h1 : some sb = some b) (h2 : ¬ some cb = some b) : shN sb cb b c = nI 0 + c := by
  unfold shN; rw [if_pos (Option.some.inj h1), if_neg (fun z => h2 (congrArg some z))]; exact Int32.sub_zero _
theorem shN_ft {sb cb b : Nat} {c : Int32} (h1 : ¬ some sb = some b) (h2 : some cb = some b) : shN sb cb b c = nI 0 - c := by
  unfold shN; rw [if_neg (fun z => h1 (congrArg some z)), if_pos (Option.some.inj h2)]
theorem shN_ff {sb cb b : Nat} {c : Int32} (h1 : ¬ some sb = some b) (h2 : ¬ some cb = some b) : shN sb cb b c = nI 0 := by
  unfold shN; rw [if_neg (fun z => h1 (congrArg some z)), if_neg (fun z => h2 (congrArg some z))]; exact Int32.sub_zero _
theorem kwX5_left_1 : Cond.fieldLink RX5 28 "CardPort$Payment" "amount" "I" ∈ wsX5_left := List.mem_of_getElem? (i := 1) rfl
theorem htX5_left_wsX501 : ∀ w ∈ wsX50, w ∈ wsX5_left := fun _ h => List.mem_cons_of_mem _ (List.mem_append_right _ h)
theorem kwX5_left_2 : Cond.fieldLink RX5 7 "CardPort$Payment" "captured" "I" ∈ wsX5_left := List.mem_of_getElem? (i := 2) rfl
set_option maxHeartbeats 4000000 in
set_option maxRecDepth 100000 in
theorem c_X5_left (l : Launch) (D : va_G) (kc : Nat → ClassId) (A : Nat → Prop) (e0 : Nat × Nat) (M : Mp) (h0 cd sh pa ld pk pv : Nat) (nb : Int32) (hm : M h0 = some (.inr (6, [.int nb, .ref cd, .ref sh, .int (nI pa), .int (nI ld), .int (nI pk), .int (nI pv)]))) (hle : pk ≤ pa) : Met l yX5_left wsX5_left ({ frames := 0, cells := 0, slots := 0, locals := 0 }) (mPre D kc A e0 M [.ref h0]) (va_Qi (fun r M1 => r = nI (pa - pk) ∧ M1 = M) (mB D A) A) 0 0 A := by
  refine Met.ofW (cc := cX5_left) (maxL := 1) (ret := (some .int)) (by decide) rfl ?_
  intro p e s m args below meth c s₁ B hml hv
  obtain ⟨rfl, hw, hK, hA, hcx⟩ := hv
  have X : mX p s m _ c cX5_left 1 RX5 wsX5_left D kc := ⟨⟨B.exec, B.bytes, hml, findClass_of_methodNamed B.named, atoms_spec (ws := wsX5_left) B.pre⟩, hK⟩
  have hx := B.exec
  have hb := B.bytes
  have hr := B.returns
  have hlocks := B.notSynchronized
  have Y : mY D A M s s.heap [] := ⟨hw, va_S.rf⟩
  have hl := lv_entry ([.ref h0]) (n := 1) (Nat.le_of_ble_eq_true rfl)
  rw [lg_entry_eq]
  generalize (lg_sl ([.ref h0]) ++ List.replicate (1 - (lg_sl ([.ref h0])).length) Slot.unset).toArray = ls at hl ⊢
  have hl : lv_has ls 1 [(0, .ref h0)] := hl
  refine lv_aload_n hx hb dX5_left_0 rfl (lv_at hl 0 rfl) ?_
  refine m_get (ref := "CardPort$Payment") (C := RX5) (T := TX5) (N := 7) (ci := 6) X Y htX5_left_wsX501 hm rfl 3 (by decide) kwX5_left_1 rfl (v := .int (nI pa)) rfl dX5_left_1 ?_
  refine lv_aload_n hx hb dX5_left_4 rfl (lv_at hl 0 rfl) ?_
  refine m_get (ref := "CardPort$Payment") (C := RX5) (T := TX5) (N := 7) (ci := 6) X Y htX5_left_wsX501 hm rfl 5 (by decide) kwX5_left_2 rfl (v := .int (nI pk)) rfl dX5_left_5 ?_
  refine n_isub hx hb (by omega) dX5_left_8 ?_
  refine m_iret X Y hr hlocks (by decide) (by decide) ?_ dX5_left_9
  exact ⟨rfl, rfl⟩
theorem kwX5_isAlive_1 : Cond.fieldLink RX5 13 "CardPort$Payment" "isVoid" "Z" ∈ wsX5_isAlive := List.mem_of_getElem? (i := 1) rfl
theorem htX5_isAlive_wsX501 : ∀ w ∈ wsX50, w ∈ wsX5_isAlive := fun _ h => List.mem_cons_of_mem _ (List.mem_append_right _ h)
theorem kwX5_isAlive_2 : Cond.fieldLink RX5 31 "CardPort$Payment" "lastDay" "I" ∈ wsX5_isAlive := List.mem_of_getElem? (i := 2) rfl
set_option maxHeartbeats 4000000 in
set_option maxRecDepth 100000 in
theorem c_X5_isAlive (l : Launch) (D : va_G) (kc : Nat → ClassId) (A : Nat → Prop) (e0 : Nat × Nat) (M : Mp) (h0 cd sh pa ld pk pv : Nat) (nb : Int32) (td : Nat) (hm : M h0 = some (.inr (6, [.int nb, .ref cd, .ref sh, .int (nI pa), .int (nI ld), .int (nI pk), .int (nI pv)]))) (h1 : pv ≤ 1) (h2 : td < 2147483648) (h3 : ld < 2147483648) : Met l yX5_isAlive wsX5_isAlive ({ frames := 0, cells := 0, slots := 0, locals := 0 }) (mPre D kc A e0 M [.ref h0, .int (nI td)]) (va_Qi (fun r M1 => r = bN (pv = 0 ∧ td ≤ ld) ∧ M1 = M) (mB D A) A) 0 0 A := by
  refine Met.ofW (cc := cX5_isAlive) (maxL := 2) (ret := (some .boolean)) (by decide) rfl ?_
  intro p e s m args below meth c s₁ B hml hv
  obtain ⟨rfl, hw, hK, hA, hcx⟩ := hv
  have X : mX p s m _ c cX5_isAlive 2 RX5 wsX5_isAlive D kc := ⟨⟨B.exec, B.bytes, hml, findClass_of_methodNamed B.named, atoms_spec (ws := wsX5_isAlive) B.pre⟩, hK⟩
  have hx := B.exec
  have hb := B.bytes
  have hr := B.returns
  have hlocks := B.notSynchronized
  have Y : mY D A M s s.heap [] := ⟨hw, va_S.rf⟩
  have hl := lv_entry ([.ref h0, .int (nI td)]) (n := 2) (Nat.le_of_ble_eq_true rfl)
  rw [lg_entry_eq]
  generalize (lg_sl ([.ref h0, .int (nI td)]) ++ List.replicate (2 - (lg_sl ([.ref h0, .int (nI td)])).length) Slot.unset).toArray = ls at hl ⊢
  have hl : lv_has ls 2 [(0, .ref h0), (1, .int (nI td))] := hl
  refine lv_aload_n hx hb dX5_isAlive_0 rfl (lv_at hl 0 rfl) ?_
  refine m_get (ref := "CardPort$Payment") (C := RX5) (T := TX5) (N := 7) (ci := 6) X Y htX5_isAlive_wsX501 hm rfl 6 (by decide) kwX5_isAlive_1 rfl (v := .int (nI pv)) rfl dX5_isAlive_1 ?_
  refine n_if_ne hx hb 19 (by omega) dX5_isAlive_4 (by decide) (fun c4 => ?_) (fun c4 => ?_)
  · refine n_iconst hx hb 0 dX5_isAlive_19 (by decide) ?_
    refine m_zret X Y hr hlocks (by decide) (by decide) (by rfl) ?_ dX5_isAlive_20
    exact ⟨(bN_f (by omega)).symm, rfl⟩
  · refine lv_iload_n hx hb dX5_isAlive_7 rfl (lv_at hl 1 rfl) ?_
    refine lv_aload_n hx hb dX5_isAlive_8 rfl (lv_at hl 0 rfl) ?_
    refine m_get (ref := "CardPort$Payment") (C := RX5) (T := TX5) (N := 7) (ci := 6) X Y htX5_isAlive_wsX501 hm rfl 4 (by decide) kwX5_isAlive_2 rfl (v := .int (nI ld)) rfl dX5_isAlive_9 ?_
    refine n_icmp_gt hx hb 19 (by omega) (by omega) dX5_isAlive_12 (by decide) (fun c12 => ?_) (fun c12 => ?_)
    · refine n_iconst hx hb 0 dX5_isAlive_19 (by decide) ?_
      refine m_zret X Y hr hlocks (by decide) (by decide) (by rfl) ?_ dX5_isAlive_20
      exact ⟨(bN_f (by omega)).symm, rfl⟩
    · refine n_iconst hx hb 1 dX5_isAlive_15 (by decide) ?_
      refine lv_goto (tgt := 20) hx hb dX5_isAlive_16 (by decide) ?_
      refine m_zret X Y hr hlocks (by decide) (by decide) (by rfl) ?_ dX5_isAlive_20
      exact ⟨(bN_t (by omega)).symm, rfl⟩
theorem kwX3_hasDeadline_1 : Cond.fieldLink RX3 9 "CardPort$Chargeback" "stage" "I" ∈ wsX3_hasDeadline := List.mem_of_getElem? (i := 1) rfl
theorem htX3_hasDeadline_wsX301 : ∀ w ∈ wsX30, w ∈ wsX3_hasDeadline := fun _ h => List.mem_cons_of_mem _ (List.mem_append_right _ h)
set_option maxHeartbeats 4000000 in
set_option maxRecDepth 100000 in
theorem c_X3_hasDeadline (l : Launch) (D : va_G) (kc : Nat → ClassId) (A : Nat → Prop) (e0 : Nat × Nat) (M : Mp) (h0 cq am st : Nat) (nb la : Int32) (hm : M h0 = some (.inr (4, [.int nb, .ref cq, .int (nI am), .int (nI st), .int la]))) (h1 : st ≤ 4) : Met l yX3_hasDeadline wsX3_hasDeadline ({ frames := 0, cells := 0, slots := 0, locals := 0 }) (mPre D kc A e0 M [.ref h0]) (va_Qi (fun r M1 => r = bN (st ≤ 1) ∧ M1 = M) (mB D A) A) 0 0 A := by
  refine Met.ofW (cc := cX3_hasDeadline) (maxL := 1) (ret := (some .boolean)) (by decide) rfl ?_
  intro p e s m args below meth c s₁ B hml hv
  obtain ⟨rfl, hw, hK, hA, hcx⟩ := hv
  have X : mX p s m _ c cX3_hasDeadline 1 RX3 wsX3_hasDeadline D kc := ⟨⟨B.exec, B.bytes, hml, findClass_of_methodNamed B.named, atoms_spec (ws := wsX3_hasDeadline) B.pre⟩, hK⟩
  have hx := B.exec
  have hb := B.bytes
  have hr := B.returns
  have hlocks := B.notSynchronized
  have Y : mY D A M s s.heap [] := ⟨hw, va_S.rf⟩
  have hl := lv_entry ([.ref h0]) (n := 1) (Nat.le_of_ble_eq_true rfl)
  rw [lg_entry_eq]
  generalize (lg_sl ([.ref h0]) ++ List.replicate (1 - (lg_sl ([.ref h0])).length) Slot.unset).toArray = ls at hl ⊢
  have hl : lv_has ls 1 [(0, .ref h0)] := hl
  refine lv_aload_n hx hb dX3_hasDeadline_0 rfl (lv_at hl 0 rfl) ?_
  refine m_get (ref := "CardPort$Chargeback") (C := RX3) (T := TX3) (N := 5) (ci := 4) X Y htX3_hasDeadline_wsX301 hm rfl 3 (by decide) kwX3_hasDeadline_1 rfl (v := .int (nI st)) rfl dX3_hasDeadline_1 ?_
  refine n_if_eq hx hb 15 (by omega) dX3_hasDeadline_4 (by decide) (fun c4 => ?_) (fun c4 => ?_)
  · refine n_iconst hx hb 1 dX3_hasDeadline_15 (by decide) ?_
    refine lv_goto (tgt := 20) hx hb dX3_hasDeadline_16 (by decide) ?_
    refine m_zret X Y hr hlocks (by decide) (by decide) (by rfl) ?_ dX3_hasDeadline_20
    exact ⟨(bN_t (by omega)).symm, rfl⟩
  · refine lv_aload_n hx hb dX3_hasDeadline_7 rfl (lv_at hl 0 rfl) ?_
    refine m_get (ref := "CardPort$Chargeback") (C := RX3) (T := TX3) (N := 5) (ci := 4) X Y htX3_hasDeadline_wsX301 hm rfl 3 (by decide) kwX3_hasDeadline_1 rfl (v := .int (nI st)) rfl dX3_hasDeadline_8 ?_
    refine n_iconst hx hb 1 dX3_hasDeadline_11 (by decide) ?_
    refine n_icmp_ne hx hb 19 (by omega) (by omega) dX3_hasDeadline_12 (by decide) (fun c12 => ?_) (fun c12 => ?_)
    · refine n_iconst hx hb 0 dX3_hasDeadline_19 (by decide) ?_
      refine m_zret X Y hr hlocks (by decide) (by decide) (by rfl) ?_ dX3_hasDeadline_20
      exact ⟨(bN_f (by omega)).symm, rfl⟩
    · refine n_iconst hx hb 1 dX3_hasDeadline_15 (by decide) ?_
      refine lv_goto (tgt := 20) hx hb dX3_hasDeadline_16 (by decide) ?_
      refine m_zret X Y hr hlocks (by decide) (by decide) (by rfl) ?_ dX3_hasDeadline_20
      exact ⟨(bN_t (by omega)).symm, rfl⟩
theorem kwX3_isWithCard_1 : Cond.fieldLink RX3 9 "CardPort$Chargeback" "stage" "I" ∈ wsX3_isWithCard := List.mem_of_getElem? (i := 1) rfl
theorem htX3_isWithCard_wsX301 : ∀ w ∈ wsX30, w ∈ wsX3_isWithCard := fun _ h => List.mem_cons_of_mem _ (List.mem_append_right _ h)
set_option maxHeartbeats 4000000 in
set_option maxRecDepth 100000 in
theorem c_X3_isWithCard (l : Launch) (D : va_G) (kc : Nat → ClassId) (A : Nat → Prop) (e0 : Nat × Nat) (M : Mp) (h0 cq am st : Nat) (nb la : Int32) (hm : M h0 = some (.inr (4, [.int nb, .ref cq, .int (nI am), .int (nI st), .int la]))) (h1 : st ≤ 4) : Met l yX3_isWithCard wsX3_isWithCard ({ frames := 0, cells := 0, slots := 0, locals := 0 }) (mPre D kc A e0 M [.ref h0]) (va_Qi (fun r M1 => r = bN (st = 0 ∨ st = 2 ∨ st = 3) ∧ M1 = M) (mB D A) A) 0 0 A := by
  refine Met.ofW (cc := cX3_isWithCard) (maxL := 1) (ret := (some .boolean)) (by decide) rfl ?_
  intro p e s m args below meth c s₁ B hml hv
  obtain ⟨rfl, hw, hK, hA, hcx⟩ := hv
  have X : mX p s m _ c cX3_isWithCard 1 RX3 wsX3_isWithCard D kc := ⟨⟨B.exec, B.bytes, hml, findClass_of_methodNamed B.named, atoms_spec (ws := wsX3_isWithCard) B.pre⟩, hK⟩
  have hx := B.exec
  have hb := B.bytes
  have hr := B.returns
  have hlocks := B.notSynchronized
  have Y : mY D A M s s.heap [] := ⟨hw, va_S.rf⟩
  have hl := lv_entry ([.ref h0]) (n := 1) (Nat.le_of_ble_eq_true rfl)
  rw [lg_entry_eq]
  generalize (lg_sl ([.ref h0]) ++ List.replicate (1 - (lg_sl ([.ref h0])).length) Slot.unset).toArray = ls at hl ⊢
  have hl : lv_has ls 1 [(0, .ref h0)] := hl
  refine lv_aload_n hx hb dX3_isWithCard_0 rfl (lv_at hl 0 rfl) ?_
  refine m_get (ref := "CardPort$Chargeback") (C := RX3) (T := TX3) (N := 5) (ci := 4) X Y htX3_isWithCard_wsX301 hm rfl 3 (by decide) kwX3_isWithCard_1 rfl (v := .int (nI st)) rfl dX3_isWithCard_1 ?_
  refine n_if_eq hx hb 23 (by omega) dX3_isWithCard_4 (by decide) (fun c4 => ?_) (fun c4 => ?_)
  · refine n_iconst hx hb 1 dX3_isWithCard_23 (by decide) ?_
    refine lv_goto (tgt := 28) hx hb dX3_isWithCard_24 (by decide) ?_
    refine m_zret X Y hr hlocks (by decide) (by decide) (by rfl) ?_ dX3_isWithCard_28
    exact ⟨(bN_t (by omega)).symm, rfl⟩
  · refine lv_aload_n hx hb dX3_isWithCard_7 rfl (lv_at hl 0 rfl) ?_
    refine m_get (ref := "CardPort$Chargeback") (C := RX3) (T := TX3) (N := 5) (ci := 4) X Y htX3_isWithCard_wsX301 hm rfl 3 (by decide) kwX3_isWithCard_1 rfl (v := .int (nI st)) rfl dX3_isWithCard_8 ?_
    refine n_iconst hx hb 2 dX3_isWithCard_11 (by decide) ?_
    refine n_icmp_eq hx hb 23 (by omega) (by omega) dX3_isWithCard_12 (by decide) (fun c12 => ?_) (fun c12 => ?_)
    · refine n_iconst hx hb 1 dX3_isWithCard_23 (by decide) ?_
      refine lv_goto (tgt := 28) hx hb dX3_isWithCard_24 (by decide) ?_
      refine m_zret X Y hr hlocks (by decide) (by decide) (by rfl) ?_ dX3_isWithCard_28
      exact ⟨(bN_t (by omega)).symm, rfl⟩
    · refine lv_aload_n hx hb dX3_isWithCard_15 rfl (lv_at hl 0 rfl) ?_
      refine m_get (ref := "CardPort$Chargeback") (C := RX3) (T := TX3) (N := 5) (ci := 4) X Y htX3_isWithCard_wsX301 hm rfl 3 (by decide) kwX3_isWithCard_1 rfl (v := .int (nI st)) rfl dX3_isWithCard_16 ?_
      refine n_iconst hx hb 3 dX3_isWithCard_19 (by decide) ?_
      refine n_icmp_ne hx hb 27 (by omega) (by omega) dX3_isWithCard_20 (by decide) (fun c20 => ?_) (fun c20 => ?_)
      · refine n_iconst hx hb 0 dX3_isWithCard_27 (by decide) ?_
        refine m_zret X Y hr hlocks (by decide) (by decide) (by rfl) ?_ dX3_isWithCard_28
        exact ⟨(bN_f (by omega)).symm, rfl⟩
      · refine n_iconst hx hb 1 dX3_isWithCard_23 (by decide) ?_
        refine lv_goto (tgt := 28) hx hb dX3_isWithCard_24 (by decide) ?_
        refine m_zret X Y hr hlocks (by decide) (by decide) (by rfl) ?_ dX3_isWithCard_28
        exact ⟨(bN_t (by omega)).symm, rfl⟩
theorem kwX3_isDueBefore_1 : Cond.fieldLink RX3 25 "CardPort$Chargeback" "lastDay" "I" ∈ wsX3_isDueBefore := List.mem_of_getElem? (i := 1) rfl
theorem htX3_isDueBefore_wsX301 : ∀ w ∈ wsX30, w ∈ wsX3_isDueBefore := fun _ h => List.mem_cons_of_mem _ (List.mem_append_right _ h)
theorem kwX3_isDueBefore_2 : Cond.fieldLink RX3 22 "CardPort$Chargeback" "amount" "I" ∈ wsX3_isDueBefore := List.mem_of_getElem? (i := 2) rfl
theorem kwX3_isDueBefore_3 : Cond.fieldLink RX3 15 "CardPort$Chargeback" "number" "I" ∈ wsX3_isDueBefore := List.mem_of_getElem? (i := 3) rfl
set_option maxHeartbeats 4000000 in
set_option maxRecDepth 100000 in
theorem c_X3_isDueBefore (l : Launch) (D : va_G) (kc : Nat → ClassId) (A : Nat → Prop) (e0 : Nat × Nat) (M : Mp) (h0 h1 cq cr a1 a2 s1 s2 n1 n2 : Nat) (x1 x2 : Int32) (hm : M h0 = some (.inr (4, [.int (nI n1), .ref cq, .int (nI a1), .int (nI s1), .int x1]))) (hm2 : M h1 = some (.inr (4, [.int (nI n2), .ref cr, .int (nI a2), .int (nI s2), .int x2]))) (ha : a1 < 2147483648) (ha2 : a2 < 2147483648) (hn1 : n1 < 2147483648) (hn2 : n2 < 2147483648) : Met l yX3_isDueBefore wsX3_isDueBefore ({ frames := 0, cells := 0, slots := 0, locals := 0 }) (mPre D kc A e0 M [.ref h0, .ref h1]) (va_Qi (fun r M1 => r = bN (dueB x1 a1 n1 x2 a2 n2) ∧ M1 = M) (mB D A) A) 0 0 A := by
  refine Met.ofW (cc := cX3_isDueBefore) (maxL := 2) (ret := (some .boolean)) (by decide) rfl ?_
  intro p e s m args below meth c s₁ B hml hv
  obtain ⟨rfl, hw, hK, hA, hcx⟩ := hv
  have X : mX p s m _ c cX3_isDueBefore 2 RX3 wsX3_isDueBefore D kc := ⟨⟨B.exec, B.bytes, hml, findClass_of_methodNamed B.named, atoms_spec (ws := wsX3_isDueBefore) B.pre⟩, hK⟩
  have hx := B.exec
  have hb := B.bytes
  have hr := B.returns
  have hlocks := B.notSynchronized
  have Y : mY D A M s s.heap [] := ⟨hw, va_S.rf⟩
  have hl := lv_entry ([.ref h0, .ref h1]) (n := 2) (Nat.le_of_ble_eq_true rfl)
  rw [lg_entry_eq]
  generalize (lg_sl ([.ref h0, .ref h1]) ++ List.replicate (2 - (lg_sl ([.ref h0, .ref h1])).length) Slot.unset).toArray = ls at hl ⊢
  have hl : lv_has ls 2 [(0, .ref h0), (1, .ref h1)] := hl
  refine lv_aload_n hx hb dX3_isDueBefore_0 rfl (lv_at hl 0 rfl) ?_
  refine m_get (ref := "CardPort$Chargeback") (C := RX3) (T := TX3) (N := 5) (ci := 4) X Y htX3_isDueBefore_wsX301 hm rfl 4 (by decide) kwX3_isDueBefore_1 rfl (v := .int x1) rfl dX3_isDueBefore_1 ?_
  refine lv_aload_n hx hb dX3_isDueBefore_4 rfl (lv_at hl 1 rfl) ?_
  refine m_get (ref := "CardPort$Chargeback") (C := RX3) (T := TX3) (N := 5) (ci := 4) X Y htX3_isDueBefore_wsX301 hm2 rfl 4 (by decide) kwX3_isDueBefore_1 rfl (v := .int x2) rfl dX3_isDueBefore_5 ?_
  refine lv_icmp_eq (tgt := 28) hx hb dX3_isDueBefore_8 (by decide) (fun c8 => ?_) (fun c8 => ?_)
  · refine lv_aload_n hx hb dX3_isDueBefore_28 rfl (lv_at hl 0 rfl) ?_
    refine m_get (ref := "CardPort$Chargeback") (C := RX3) (T := TX3) (N := 5) (ci := 4) X Y htX3_isDueBefore_wsX301 hm rfl 2 (by decide) kwX3_isDueBefore_2 rfl (v := .int (nI a1)) rfl dX3_isDueBefore_29 ?_
    refine lv_aload_n hx hb dX3_isDueBefore_32 rfl (lv_at hl 1 rfl) ?_
    refine m_get (ref := "CardPort$Chargeback") (C := RX3) (T := TX3) (N := 5) (ci := 4) X Y htX3_isDueBefore_wsX301 hm2 rfl 2 (by decide) kwX3_isDueBefore_2 rfl (v := .int (nI a2)) rfl dX3_isDueBefore_33 ?_
    refine n_icmp_eq hx hb 56 (by omega) (by omega) dX3_isDueBefore_36 (by decide) (fun c36 => ?_) (fun c36 => ?_)
    · refine lv_aload_n hx hb dX3_isDueBefore_56 rfl (lv_at hl 0 rfl) ?_
      refine m_get (ref := "CardPort$Chargeback") (C := RX3) (T := TX3) (N := 5) (ci := 4) X Y htX3_isDueBefore_wsX301 hm rfl 0 (by decide) kwX3_isDueBefore_3 rfl (v := .int (nI n1)) rfl dX3_isDueBefore_57 ?_
      refine lv_aload_n hx hb dX3_isDueBefore_60 rfl (lv_at hl 1 rfl) ?_
      refine m_get (ref := "CardPort$Chargeback") (C := RX3) (T := TX3) (N := 5) (ci := 4) X Y htX3_isDueBefore_wsX301 hm2 rfl 0 (by decide) kwX3_isDueBefore_3 rfl (v := .int (nI n2)) rfl dX3_isDueBefore_61 ?_
      refine n_icmp_ge hx hb 71 (by omega) (by omega) dX3_isDueBefore_64 (by decide) (fun c64 => ?_) (fun c64 => ?_)
      · refine n_iconst hx hb 0 dX3_isDueBefore_71 (by decide) ?_
        refine m_zret X Y hr hlocks (by decide) (by decide) (by rfl) ?_ dX3_isDueBefore_72
        exact ⟨(bN_f (by simp only [dueB, Int32.lt_iff_toInt_lt, Int32.le_iff_toInt_le, ← Int32.toInt_inj] at *; omega)).symm, rfl⟩
      · refine n_iconst hx hb 1 dX3_isDueBefore_67 (by decide) ?_
        refine lv_goto (tgt := 72) hx hb dX3_isDueBefore_68 (by decide) ?_
        refine m_zret X Y hr hlocks (by decide) (by decide) (by rfl) ?_ dX3_isDueBefore_72
        exact ⟨(bN_t (by simp only [dueB, Int32.lt_iff_toInt_lt, Int32.le_iff_toInt_le, ← Int32.toInt_inj] at *; omega)).symm, rfl⟩
    · refine lv_aload_n hx hb dX3_isDueBefore_39 rfl (lv_at hl 0 rfl) ?_
      refine m_get (ref := "CardPort$Chargeback") (C := RX3) (T := TX3) (N := 5) (ci := 4) X Y htX3_isDueBefore_wsX301 hm rfl 2 (by decide) kwX3_isDueBefore_2 rfl (v := .int (nI a1)) rfl dX3_isDueBefore_40 ?_
      refine lv_aload_n hx hb dX3_isDueBefore_43 rfl (lv_at hl 1 rfl) ?_
      refine m_get (ref := "CardPort$Chargeback") (C := RX3) (T := TX3) (N := 5) (ci := 4) X Y htX3_isDueBefore_wsX301 hm2 rfl 2 (by decide) kwX3_isDueBefore_2 rfl (v := .int (nI a2)) rfl dX3_isDueBefore_44 ?_
      refine n_icmp_le hx hb 54 (by omega) (by omega) dX3_isDueBefore_47 (by decide) (fun c47 => ?_) (fun c47 => ?_)
      · refine n_iconst hx hb 0 dX3_isDueBefore_54 (by decide) ?_
        refine m_zret X Y hr hlocks (by decide) (by decide) (by rfl) ?_ dX3_isDueBefore_55
        exact ⟨(bN_f (by simp only [dueB, Int32.lt_iff_toInt_lt, Int32.le_iff_toInt_le, ← Int32.toInt_inj] at *; omega)).symm, rfl⟩
      · refine n_iconst hx hb 1 dX3_isDueBefore_50 (by decide) ?_
        refine lv_goto (tgt := 55) hx hb dX3_isDueBefore_51 (by decide) ?_
        refine m_zret X Y hr hlocks (by decide) (by decide) (by rfl) ?_ dX3_isDueBefore_55
        exact ⟨(bN_t (by simp only [dueB, Int32.lt_iff_toInt_lt, Int32.le_iff_toInt_le, ← Int32.toInt_inj] at *; omega)).symm, rfl⟩
  · refine lv_aload_n hx hb dX3_isDueBefore_11 rfl (lv_at hl 0 rfl) ?_
    refine m_get (ref := "CardPort$Chargeback") (C := RX3) (T := TX3) (N := 5) (ci := 4) X Y htX3_isDueBefore_wsX301 hm rfl 4 (by decide) kwX3_isDueBefore_1 rfl (v := .int x1) rfl dX3_isDueBefore_12 ?_
    refine lv_aload_n hx hb dX3_isDueBefore_15 rfl (lv_at hl 1 rfl) ?_
    refine m_get (ref := "CardPort$Chargeback") (C := RX3) (T := TX3) (N := 5) (ci := 4) X Y htX3_isDueBefore_wsX301 hm2 rfl 4 (by decide) kwX3_isDueBefore_1 rfl (v := .int x2) rfl dX3_isDueBefore_16 ?_
    refine lv_icmp_ge (tgt := 26) hx hb dX3_isDueBefore_19 (by decide) (fun c19 => ?_) (fun c19 => ?_)
    · refine n_iconst hx hb 0 dX3_isDueBefore_26 (by decide) ?_
      refine m_zret X Y hr hlocks (by decide) (by decide) (by rfl) ?_ dX3_isDueBefore_27
      exact ⟨(bN_f (by simp only [dueB, Int32.lt_iff_toInt_lt, Int32.le_iff_toInt_le, ← Int32.toInt_inj] at *; omega)).symm, rfl⟩
    · refine n_iconst hx hb 1 dX3_isDueBefore_22 (by decide) ?_
      refine lv_goto (tgt := 27) hx hb dX3_isDueBefore_23 (by decide) ?_
      refine m_zret X Y hr hlocks (by decide) (by decide) (by rfl) ?_ dX3_isDueBefore_27
      exact ⟨(bN_t (by simp only [dueB, Int32.lt_iff_toInt_lt, Int32.le_iff_toInt_le, ← Int32.toInt_inj] at *; omega)).symm, rfl⟩
theorem kwX3_endIfLate_1 : Cond.fieldLink RX3 25 "CardPort$Chargeback" "lastDay" "I" ∈ wsX3_endIfLate := List.mem_of_getElem? (i := 1) rfl
theorem htX3_endIfLate_wsX301 : ∀ w ∈ wsX30, w ∈ wsX3_endIfLate := fun _ h => List.mem_cons_of_mem _ (List.mem_append_right _ h)
theorem kwX3_endIfLate_2 : Cond.fieldLink RX3 9 "CardPort$Chargeback" "stage" "I" ∈ wsX3_endIfLate := List.mem_of_getElem? (i := 2) rfl
set_option maxHeartbeats 4000000 in
set_option maxRecDepth 100000 in
theorem c_X3_endIfLate (l : Launch) (D : va_G) (kc : Nat → ClassId) (A : Nat → Prop) (e0 : Nat × Nat) (M : Mp) (h0 cq am st u td : Nat) (nb : Int32) (hm : M h0 = some (.inr (4, [.int nb, .ref cq, .int (nI am), .int (nI st), .int (cbl st u)]))) (h1 : st ≤ 4) (hu : u < 2147483648) (htd : td < 2147483648) : Met l yX3_endIfLate wsX3_endIfLate ({ frames := 1, cells := 0, slots := 0, locals := 20 }) (mPre D kc A e0 M [.ref h0, .int (nI td)]) (va_Qv (fun M1 => M1 h0 = some (.inr (4, [.int nb, .ref cq, .int (nI am), .int (nI (eil st u td)), .int (cbl (eil st u td) u)])) ∧ ∀ x, x ≠ h0 → M1 x = M x) (mB D A) A) 0 0 A := by
  refine Met.ofW (cc := cX3_endIfLate) (maxL := 2) (ret := none) (by decide) rfl ?_
  intro p e s m args below meth c s₁ B hml hv
  obtain ⟨rfl, hw, hK, hA, hcx⟩ := hv
  have X : mX p s m _ c cX3_endIfLate 2 RX3 wsX3_endIfLate D kc := ⟨⟨B.exec, B.bytes, hml, findClass_of_methodNamed B.named, atoms_spec (ws := wsX3_endIfLate) B.pre⟩, hK⟩
  have hx := B.exec
  have hb := B.bytes
  have hr := B.returns
  have hlocks := B.notSynchronized
  have Y : mY D A M s s.heap [] := ⟨hw, va_S.rf⟩
  have hl := lv_entry ([.ref h0, .int (nI td)]) (n := 2) (Nat.le_of_ble_eq_true rfl)
  rw [lg_entry_eq]
  generalize (lg_sl ([.ref h0, .int (nI td)]) ++ List.replicate (2 - (lg_sl ([.ref h0, .int (nI td)])).length) Slot.unset).toArray = ls at hl ⊢
  have hl : lv_has ls 2 [(0, .ref h0), (1, .int (nI td))] := hl
  refine lv_aload_n hx hb dX3_endIfLate_0 rfl (lv_at hl 0 rfl) ?_
  refine m_rVi (As := []) (rest := []) X Y hA hcx (c_X3_hasDeadline l D kc A e0 M h0 cq am st nb (cbl st u) hm h1) (cwV 0 X.1.2.2.2.2 gX3_endIfLate_X3_hasDeadline rfl rfl rfl (by decide +kernel) ⟨Nat.le_of_ble_eq_true rfl, Nat.le_of_ble_eq_true rfl⟩) hm rfl rfl rfl hl.1 (Nat.le_of_ble_eq_true rfl) dX3_endIfLate_1 ⟨by decide, by decide⟩ (fun H locs Y => ?_)
  by_cases hs : st ≤ 1
  · refine n_top (bN_t hs) ?_
    rw [cbl_t hs] at hm
    refine n_if_eq hx hb 15 (by omega) dX3_endIfLate_4 (by decide) (fun zq => absurd zq (by decide)) (fun _ => ?_)
    refine lv_iload_n hx hb dX3_endIfLate_7 rfl (lv_at hl 1 rfl) ?_
    refine lv_aload_n hx hb dX3_endIfLate_8 rfl (lv_at hl 0 rfl) ?_
    refine m_get (ref := "CardPort$Chargeback") (C := RX3) (T := TX3) (N := 5) (ci := 4) X Y htX3_endIfLate_wsX301 hm rfl 4 (by decide) kwX3_endIfLate_1 rfl (v := .int (nI u)) rfl dX3_endIfLate_9 ?_
    refine n_icmp_gt hx hb 16 (by omega) (by omega) dX3_endIfLate_12 (by decide) (fun c12 => ?_) (fun c12 => ?_)
    · refine lv_aload_n hx hb dX3_endIfLate_16 rfl (lv_at hl 0 rfl) ?_
      refine lv_aload_n hx hb dX3_endIfLate_17 rfl (lv_at hl 0 rfl) ?_
      refine m_get (ref := "CardPort$Chargeback") (C := RX3) (T := TX3) (N := 5) (ci := 4) X Y htX3_endIfLate_wsX301 hm rfl 3 (by decide) kwX3_endIfLate_2 rfl (v := .int (nI st)) rfl dX3_endIfLate_18 ?_
      refine n_if_ne hx hb 28 (by omega) dX3_endIfLate_21 (by decide) (fun c21 => ?_) (fun c21 => ?_)
      · refine n_iconst hx hb 4 dX3_endIfLate_28 (by decide) ?_
        refine m_put (ref := "CardPort$Chargeback") (C := RX3) (T := TX3) (N := 5) (ci := 4) X Y htX3_endIfLate_wsX301 tyX3 tyX3_ok nmX3 hm rfl 3 (by decide) kwX3_endIfLate_2 rfl rfl (v := .int (nI 4)) rfl rfl (Nat.le_of_ble_eq_true rfl) dX3_endIfLate_29 (fun H locs Y => ?_)
        obtain ⟨M1, eM1⟩ : ∃ zz9 : Mp, zz9 = mu M h0 (.inr (4, [.int nb, .ref cq, .int (nI am), .int (nI 4), .int (nI u)])) := ⟨_, rfl⟩
        have Y : mY D A M1 s H locs := by rw [eM1]; exact Y
        have hh2 : M1 h0 = some (.inr (4, [.int nb, .ref cq, .int (nI am), .int (nI 4), .int (nI u)])) := by rw [eM1]; exact mu_self _ _ _
        refine lv_aload_n hx hb dX3_endIfLate_32 rfl (lv_at hl 0 rfl) ?_
        refine lv_iconst (v := -1) hx hb dX3_endIfLate_33 (by decide) ?_
        refine m_put (ref := "CardPort$Chargeback") (C := RX3) (T := TX3) (N := 5) (ci := 4) X Y htX3_endIfLate_wsX301 tyX3 tyX3_ok nmX3 hh2 rfl 4 (by decide) kwX3_endIfLate_1 rfl rfl (v := .int (-1)) rfl rfl (Nat.le_of_ble_eq_true rfl) dX3_endIfLate_34 (fun H locs Y => ?_)
        obtain ⟨M3, eM3⟩ : ∃ zz9 : Mp, zz9 = mu M1 h0 (.inr (4, [.int nb, .ref cq, .int (nI am), .int (nI 4), .int (-1)])) := ⟨_, rfl⟩
        have Y : mY D A M3 s H locs := by rw [eM3]; exact Y
        have hh4 : M3 h0 = some (.inr (4, [.int nb, .ref cq, .int (nI am), .int (nI 4), .int (-1)])) := by rw [eM3]; exact mu_self _ _ _
        refine m_vret X Y hr hlocks (by decide) (by decide) ?_ dX3_endIfLate_37
        refine ⟨?_, fun x hx2 => ?_⟩
        · rw [hh4]
          have hE : eil st u td = st + 3 := if_pos ⟨by omega, by omega⟩
          rw [hE, cbl_f (by omega)]
          have h0s : st = 1 := by omega
          subst h0s
          rfl
        · rw [eM3, mu_ne _ _ hx2, eM1, mu_ne _ _ hx2]
      · refine n_iconst hx hb 3 dX3_endIfLate_24 (by decide) ?_
        refine lv_goto (tgt := 29) hx hb dX3_endIfLate_25 (by decide) ?_
        refine m_put (ref := "CardPort$Chargeback") (C := RX3) (T := TX3) (N := 5) (ci := 4) X Y htX3_endIfLate_wsX301 tyX3 tyX3_ok nmX3 hm rfl 3 (by decide) kwX3_endIfLate_2 rfl rfl (v := .int (nI 3)) rfl rfl (Nat.le_of_ble_eq_true rfl) dX3_endIfLate_29 (fun H locs Y => ?_)
        obtain ⟨M5, eM5⟩ : ∃ zz9 : Mp, zz9 = mu M h0 (.inr (4, [.int nb, .ref cq, .int (nI am), .int (nI 3), .int (nI u)])) := ⟨_, rfl⟩
        have Y : mY D A M5 s H locs := by rw [eM5]; exact Y
        have hh6 : M5 h0 = some (.inr (4, [.int nb, .ref cq, .int (nI am), .int (nI 3), .int (nI u)])) := by rw [eM5]; exact mu_self _ _ _
        refine lv_aload_n hx hb dX3_endIfLate_32 rfl (lv_at hl 0 rfl) ?_
        refine lv_iconst (v := -1) hx hb dX3_endIfLate_33 (by decide) ?_
        refine m_put (ref := "CardPort$Chargeback") (C := RX3) (T := TX3) (N := 5) (ci := 4) X Y htX3_endIfLate_wsX301 tyX3 tyX3_ok nmX3 hh6 rfl 4 (by decide) kwX3_endIfLate_1 rfl rfl (v := .int (-1)) rfl rfl (Nat.le_of_ble_eq_true rfl) dX3_endIfLate_34 (fun H locs Y => ?_)
        obtain ⟨M7, eM7⟩ : ∃ zz9 : Mp, zz9 = mu M5 h0 (.inr (4, [.int nb, .ref cq, .int (nI am), .int (nI 3), .int (-1)])) := ⟨_, rfl⟩
        have Y : mY D A M7 s H locs := by rw [eM7]; exact Y
        have hh8 : M7 h0 = some (.inr (4, [.int nb, .ref cq, .int (nI am), .int (nI 3), .int (-1)])) := by rw [eM7]; exact mu_self _ _ _
        refine m_vret X Y hr hlocks (by decide) (by decide) ?_ dX3_endIfLate_37
        refine ⟨?_, fun x hx2 => ?_⟩
        · rw [hh8]
          have hE : eil st u td = st + 3 := if_pos ⟨by omega, by omega⟩
          rw [hE, cbl_f (by omega)]
          have h0s : st = 0 := by omega
          subst h0s
          rfl
        · rw [eM7, mu_ne _ _ hx2, eM5, mu_ne _ _ hx2]
    · refine m_vret X Y hr hlocks (by decide) (by decide) ?_ dX3_endIfLate_15
      have hE : eil st u td = st := if_neg (by omega)
      rw [hE]
      exact ⟨by rw [cbl_t hs]; exact hm, fun x _ => rfl⟩
  · refine n_top (bN_f hs) ?_
    refine n_if_eq hx hb 15 (by omega) dX3_endIfLate_4 (by decide) (fun _ => ?_) (fun zq => absurd zq (by decide))
    refine m_vret X Y hr hlocks (by decide) (by decide) ?_ dX3_endIfLate_15
    have hE : eil st u td = st := if_neg (by omega)
    rw [hE]
    exact ⟨hm, fun x _ => rfl⟩
theorem kwX1_cardBank_1 : Cond.fieldLink RX1 16 "CardPort$Capture" "payment" "LCardPort$Payment;" ∈ wsX1_cardBank := List.mem_of_getElem? (i := 1) rfl
theorem htX1_cardBank_wsX101 : ∀ w ∈ wsX10, w ∈ wsX1_cardBank := fun _ h => List.mem_cons_of_mem _ (List.mem_append_left _ (List.mem_append_left _ (List.mem_append_right _ h)))
theorem kwX1_cardBank_2 : Cond.fieldLink RX1 26 "CardPort$Payment" "card" "LCardPort$Card;" ∈ wsX1_cardBank := List.mem_of_getElem? (i := 2) rfl
theorem htX1_cardBank_wsX502 : ∀ w ∈ wsX50, w ∈ wsX1_cardBank := fun _ h => List.mem_cons_of_mem _ (List.mem_append_left _ (List.mem_append_right _ h))
theorem kwX1_cardBank_3 : Cond.fieldLink RX1 32 "CardPort$Card" "bank" "LCardPort$Bank;" ∈ wsX1_cardBank := List.mem_of_getElem? (i := 3) rfl
theorem htX1_cardBank_wsX203 : ∀ w ∈ wsX20, w ∈ wsX1_cardBank := fun _ h => List.mem_cons_of_mem _ (List.mem_append_right _ h)
set_option maxHeartbeats 4000000 in
set_option maxRecDepth 100000 in
theorem c_X1_cardBank (l : Launch) (D : va_G) (kc : Nat → ClassId) (A : Nat → Prop) (e0 : Nat × Nat) (M : Mp) (h0 pp cd sh bk am fe rf pa ld pk pv : Nat) (nb nb2 nb3 : Int32) (hm : M h0 = some (.inr (2, [.int nb, .ref pp, .int (nI am), .int (nI fe), .int (nI rf)]))) (hp : M pp = some (.inr (6, [.int nb2, .ref cd, .ref sh, .int (nI pa), .int (nI ld), .int (nI pk), .int (nI pv)]))) (hc : M cd = some (.inr (3, [.int nb3, .ref bk]))) : Met l yX1_cardBank wsX1_cardBank ({ frames := 0, cells := 0, slots := 0, locals := 0 }) (mPre D kc A e0 M [.ref h0]) (va_Qq (fun r M1 => r = some bk ∧ M1 = M) (mB D A) A) 0 0 A := by
  refine Met.ofW (cc := cX1_cardBank) (maxL := 1) (ret := (some (.object "CardPort$Bank"))) (by decide) rfl ?_
  intro p e s m args below meth c s₁ B hml hv
  obtain ⟨rfl, hw, hK, hA, hcx⟩ := hv
  have X : mX p s m _ c cX1_cardBank 1 RX1 wsX1_cardBank D kc := ⟨⟨B.exec, B.bytes, hml, findClass_of_methodNamed B.named, atoms_spec (ws := wsX1_cardBank) B.pre⟩, hK⟩
  have hx := B.exec
  have hb := B.bytes
  have hr := B.returns
  have hlocks := B.notSynchronized
  have Y : mY D A M s s.heap [] := ⟨hw, va_S.rf⟩
  have hl := lv_entry ([.ref h0]) (n := 1) (Nat.le_of_ble_eq_true rfl)
  rw [lg_entry_eq]
  generalize (lg_sl ([.ref h0]) ++ List.replicate (1 - (lg_sl ([.ref h0])).length) Slot.unset).toArray = ls at hl ⊢
  have hl : lv_has ls 1 [(0, .ref h0)] := hl
  refine lv_aload_n hx hb dX1_cardBank_0 rfl (lv_at hl 0 rfl) ?_
  refine m_get (ref := "CardPort$Capture") (C := RX1) (T := TX1) (N := 5) (ci := 2) X Y htX1_cardBank_wsX101 hm rfl 1 (by decide) kwX1_cardBank_1 rfl (v := .ref pp) rfl dX1_cardBank_1 ?_
  refine m_get (ref := "CardPort$Payment") (C := RX5) (T := TX5) (N := 7) (ci := 6) X Y htX1_cardBank_wsX502 hp rfl 1 (by decide) kwX1_cardBank_2 rfl (v := .ref cd) rfl dX1_cardBank_4 ?_
  refine m_get (ref := "CardPort$Card") (C := RX2) (T := TX2) (N := 2) (ci := 3) X Y htX1_cardBank_wsX203 hc rfl 1 (by decide) kwX1_cardBank_3 rfl (v := .ref bk) rfl dX1_cardBank_7 ?_
  refine m_aret X Y hr (Or.inl ⟨_, rfl⟩) hlocks (by decide) (by decide) (some bk) ?_ dX1_cardBank_10
  exact ⟨rfl, rfl⟩
theorem kwX1_shopBank_1 : Cond.fieldLink RX1 16 "CardPort$Capture" "payment" "LCardPort$Payment;" ∈ wsX1_shopBank := List.mem_of_getElem? (i := 1) rfl
theorem htX1_shopBank_wsX101 : ∀ w ∈ wsX10, w ∈ wsX1_shopBank := fun _ h => List.mem_cons_of_mem _ (List.mem_append_left _ (List.mem_append_left _ (List.mem_append_right _ h)))
theorem kwX1_shopBank_2 : Cond.fieldLink RX1 38 "CardPort$Payment" "shop" "LCardPort$Shop;" ∈ wsX1_shopBank := List.mem_of_getElem? (i := 2) rfl
theorem htX1_shopBank_wsX502 : ∀ w ∈ wsX50, w ∈ wsX1_shopBank := fun _ h => List.mem_cons_of_mem _ (List.mem_append_left _ (List.mem_append_right _ h))
theorem kwX1_shopBank_3 : Cond.fieldLink RX1 42 "CardPort$Shop" "bank" "LCardPort$Bank;" ∈ wsX1_shopBank := List.mem_of_getElem? (i := 3) rfl
theorem htX1_shopBank_wsX603 : ∀ w ∈ wsX60, w ∈ wsX1_shopBank := fun _ h => List.mem_cons_of_mem _ (List.mem_append_right _ h)
set_option maxHeartbeats 4000000 in
set_option maxRecDepth 100000 in
theorem c_X1_shopBank (l : Launch) (D : va_G) (kc : Nat → ClassId) (A : Nat → Prop) (e0 : Nat × Nat) (M : Mp) (h0 pp cd sh bk kd am fe rf pa ld pk pv : Nat) (nb nb2 nb3 : Int32) (hm : M h0 = some (.inr (2, [.int nb, .ref pp, .int (nI am), .int (nI fe), .int (nI rf)]))) (hp : M pp = some (.inr (6, [.int nb2, .ref cd, .ref sh, .int (nI pa), .int (nI ld), .int (nI pk), .int (nI pv)]))) (hc : M sh = some (.inr (7, [.int nb3, .ref bk, .ref kd]))) : Met l yX1_shopBank wsX1_shopBank ({ frames := 0, cells := 0, slots := 0, locals := 0 }) (mPre D kc A e0 M [.ref h0]) (va_Qq (fun r M1 => r = some bk ∧ M1 = M) (mB D A) A) 0 0 A := by
  refine Met.ofW (cc := cX1_shopBank) (maxL := 1) (ret := (some (.object "CardPort$Bank"))) (by decide) rfl ?_
  intro p e s m args below meth c s₁ B hml hv
  obtain ⟨rfl, hw, hK, hA, hcx⟩ := hv
  have X : mX p s m _ c cX1_shopBank 1 RX1 wsX1_shopBank D kc := ⟨⟨B.exec, B.bytes, hml, findClass_of_methodNamed B.named, atoms_spec (ws := wsX1_shopBank) B.pre⟩, hK⟩
  have hx := B.exec
  have hb := B.bytes
  have hr := B.returns
  have hlocks := B.notSynchronized
  have Y : mY D A M s s.heap [] := ⟨hw, va_S.rf⟩
  have hl := lv_entry ([.ref h0]) (n := 1) (Nat.le_of_ble_eq_true rfl)
  rw [lg_entry_eq]
  generalize (lg_sl ([.ref h0]) ++ List.replicate (1 - (lg_sl ([.ref h0])).length) Slot.unset).toArray = ls at hl ⊢
  have hl : lv_has ls 1 [(0, .ref h0)] := hl
  refine lv_aload_n hx hb dX1_shopBank_0 rfl (lv_at hl 0 rfl) ?_
  refine m_get (ref := "CardPort$Capture") (C := RX1) (T := TX1) (N := 5) (ci := 2) X Y htX1_shopBank_wsX101 hm rfl 1 (by decide) kwX1_shopBank_1 rfl (v := .ref pp) rfl dX1_shopBank_1 ?_
  refine m_get (ref := "CardPort$Payment") (C := RX5) (T := TX5) (N := 7) (ci := 6) X Y htX1_shopBank_wsX502 hp rfl 2 (by decide) kwX1_shopBank_2 rfl (v := .ref sh) rfl dX1_shopBank_4 ?_
  refine m_get (ref := "CardPort$Shop") (C := RX6) (T := TX6) (N := 3) (ci := 7) X Y htX1_shopBank_wsX603 hc rfl 1 (by decide) kwX1_shopBank_3 rfl (v := .ref bk) rfl dX1_shopBank_7 ?_
  refine m_aret X Y hr (Or.inl ⟨_, rfl⟩) hlocks (by decide) (by decide) (some bk) ?_ dX1_shopBank_10
  exact ⟨rfl, rfl⟩
set_option maxHeartbeats 4000000 in
set_option maxRecDepth 100000 in
theorem c_X1_shareOf (l : Launch) (D : va_G) (kc : Nat → ClassId) (A : Nat → Prop) (e0 : Nat × Nat) (M : Mp) (h0 pp cd sh b1 b2 bk kd am fe rf pa ld pk pv : Nat) (nb nb2 nb3 nb4 cc0 : Int32) (hm : M h0 = some (.inr (2, [.int nb, .ref pp, .int (nI am), .int (nI fe), .int (nI rf)]))) (hp : M pp = some (.inr (6, [.int nb2, .ref cd, .ref sh, .int (nI pa), .int (nI ld), .int (nI pk), .int (nI pv)]))) (hc : M cd = some (.inr (3, [.int nb3, .ref b2]))) (hs : M sh = some (.inr (7, [.int nb4, .ref b1, .ref kd]))) : Met l yX1_shareOf wsX1_shareOf ({ frames := 1, cells := 0, slots := 0, locals := 20 }) (mPre D kc A e0 M [.ref h0, .ref bk, .int cc0]) (va_Qi (fun r M1 => r = shN b1 b2 bk cc0 ∧ M1 = M) (mB D A) A) 0 0 A := by
  refine Met.ofW (cc := cX1_shareOf) (maxL := 4) (ret := (some .int)) (by decide) rfl ?_
  intro p e s m args below meth c s₁ B hml hv
  obtain ⟨rfl, hw, hK, hA, hcx⟩ := hv
  have X : mX p s m _ c cX1_shareOf 4 RX1 wsX1_shareOf D kc := ⟨⟨B.exec, B.bytes, hml, findClass_of_methodNamed B.named, atoms_spec (ws := wsX1_shareOf) B.pre⟩, hK⟩
  have hx := B.exec
  have hb := B.bytes
  have hr := B.returns
  have hlocks := B.notSynchronized
  have Y : mY D A M s s.heap [] := ⟨hw, va_S.rf⟩
  have hl := lv_entry ([.ref h0, .ref bk, .int cc0]) (n := 4) (Nat.le_of_ble_eq_true rfl)
  rw [lg_entry_eq]
  generalize (lg_sl ([.ref h0, .ref bk, .int cc0]) ++ List.replicate (4 - (lg_sl ([.ref h0, .ref bk, .int cc0])).length) Slot.unset).toArray = ls at hl ⊢
  have hl : lv_has ls 4 [(0, .ref h0), (1, .ref bk), (2, .int cc0)] := hl
  refine n_iconst hx hb 0 dX1_shareOf_0 (by decide) ?_
  refine lv_istore_n (lv' := [(3, .int (nI 0)), (0, .ref h0), (1, .ref bk), (2, .int cc0)]) hx hb dX1_shareOf_1 rfl hl (by decide) rfl (fun ls hl => ?_)
  refine lv_aload_n hx hb dX1_shareOf_2 rfl (lv_at hl 1 rfl) ?_
  refine m_rVq (As := []) (rest := []) X Y hA hcx (c_X1_shopBank l D kc A e0 M h0 pp cd sh b1 kd am fe rf pa ld pk pv nb nb2 nb4 hm hp hs) (cwV 0 X.1.2.2.2.2 gX1_shareOf_X1_shopBank rfl rfl rfl (by decide +kernel) ⟨Nat.le_of_ble_eq_true rfl, Nat.le_of_ble_eq_true rfl⟩) hm rfl rfl rfl hl.1 (Nat.le_of_ble_eq_true rfl) dX1_shareOf_3 ⟨by decide, by decide⟩ (fun H locs Y => ?_)
  refine lv_aload_n hx hb dX1_shareOf_6 rfl (lv_at hl 2 rfl) ?_
  refine lv_acmp_ne (rx := some b1) (ry := some bk) (tgt := 14) hx hb dX1_shareOf_7 (by decide) (fun c7 => ?_) (fun c7 => ?_)
  · refine lv_aload_n hx hb dX1_shareOf_14 rfl (lv_at hl 1 rfl) ?_
    refine m_rVq (As := []) (rest := []) X Y hA hcx (c_X1_cardBank l D kc A e0 M h0 pp cd sh b2 am fe rf pa ld pk pv nb nb2 nb3 hm hp hc) (cwV 0 X.1.2.2.2.2 gX1_shareOf_X1_cardBank rfl rfl rfl (by decide +kernel) ⟨Nat.le_of_ble_eq_true rfl, Nat.le_of_ble_eq_true rfl⟩) hm rfl rfl rfl hl.1 (Nat.le_of_ble_eq_true rfl) dX1_shareOf_15 ⟨by decide, by decide⟩ (fun H locs Y => ?_)
    refine lv_aload_n hx hb dX1_shareOf_18 rfl (lv_at hl 2 rfl) ?_
    refine lv_acmp_ne (rx := some b2) (ry := some bk) (tgt := 26) hx hb dX1_shareOf_19 (by decide) (fun c19 => ?_) (fun c19 => ?_)
    · refine lv_iload_n hx hb dX1_shareOf_26 rfl (lv_at hl 0 rfl) ?_
      refine m_iret X Y hr hlocks (by decide) (by decide) ?_ dX1_shareOf_27
      first | exact ⟨(shN_tt c7 c19).symm, rfl⟩ | exact ⟨(shN_tf c7 c19).symm, rfl⟩ | exact ⟨(shN_ft c7 c19).symm, rfl⟩ | exact ⟨(shN_ff c7 c19).symm, rfl⟩
    · refine lv_iload_n hx hb dX1_shareOf_22 rfl (lv_at hl 0 rfl) ?_
      refine lv_iload_n hx hb dX1_shareOf_23 rfl (lv_at hl 3 rfl) ?_
      refine lv_isub hx hb dX1_shareOf_24 ?_
      refine lv_istore_n (lv' := [(3, .int ((nI 0) - cc0)), (0, .ref h0), (1, .ref bk), (2, .int cc0)]) hx hb dX1_shareOf_25 rfl hl (by decide) rfl (fun ls hl => ?_)
      refine lv_iload_n hx hb dX1_shareOf_26 rfl (lv_at hl 0 rfl) ?_
      refine m_iret X Y hr hlocks (by decide) (by decide) ?_ dX1_shareOf_27
      first | exact ⟨(shN_tt c7 c19).symm, rfl⟩ | exact ⟨(shN_tf c7 c19).symm, rfl⟩ | exact ⟨(shN_ft c7 c19).symm, rfl⟩ | exact ⟨(shN_ff c7 c19).symm, rfl⟩
  · refine lv_iload_n hx hb dX1_shareOf_10 rfl (lv_at hl 0 rfl) ?_
    refine lv_iload_n hx hb dX1_shareOf_11 rfl (lv_at hl 3 rfl) ?_
    refine lv_iadd hx hb dX1_shareOf_12 ?_
    refine lv_istore_n (lv' := [(3, .int ((nI 0) + cc0)), (0, .ref h0), (1, .ref bk), (2, .int cc0)]) hx hb dX1_shareOf_13 rfl hl (by decide) rfl (fun ls hl => ?_)
    refine lv_aload_n hx hb dX1_shareOf_14 rfl (lv_at hl 1 rfl) ?_
    refine m_rVq (As := []) (rest := []) X Y hA hcx (c_X1_cardBank l D kc A e0 M h0 pp cd sh b2 am fe rf pa ld pk pv nb nb2 nb3 hm hp hc) (cwV 0 X.1.2.2.2.2 gX1_shareOf_X1_cardBank rfl rfl rfl (by decide +kernel) ⟨Nat.le_of_ble_eq_true rfl, Nat.le_of_ble_eq_true rfl⟩) hm rfl rfl rfl hl.1 (Nat.le_of_ble_eq_true rfl) dX1_shareOf_15 ⟨by decide, by decide⟩ (fun H locs Y => ?_)
    refine lv_aload_n hx hb dX1_shareOf_18 rfl (lv_at hl 2 rfl) ?_
    refine lv_acmp_ne (rx := some b2) (ry := some bk) (tgt := 26) hx hb dX1_shareOf_19 (by decide) (fun c19 => ?_) (fun c19 => ?_)
    · refine lv_iload_n hx hb dX1_shareOf_26 rfl (lv_at hl 0 rfl) ?_
      refine m_iret X Y hr hlocks (by decide) (by decide) ?_ dX1_shareOf_27
      first | exact ⟨(shN_tt c7 c19).symm, rfl⟩ | exact ⟨(shN_tf c7 c19).symm, rfl⟩ | exact ⟨(shN_ft c7 c19).symm, rfl⟩ | exact ⟨(shN_ff c7 c19).symm, rfl⟩
    · refine lv_iload_n hx hb dX1_shareOf_22 rfl (lv_at hl 0 rfl) ?_
      refine lv_iload_n hx hb dX1_shareOf_23 rfl (lv_at hl 3 rfl) ?_
      refine lv_isub hx hb dX1_shareOf_24 ?_
      refine lv_istore_n (lv' := [(3, .int (((nI 0) + cc0) - cc0)), (0, .ref h0), (1, .ref bk), (2, .int cc0)]) hx hb dX1_shareOf_25 rfl hl (by decide) rfl (fun ls hl => ?_)
      refine lv_iload_n hx hb dX1_shareOf_26 rfl (lv_at hl 0 rfl) ?_
      refine m_iret X Y hr hlocks (by decide) (by decide) ?_ dX1_shareOf_27
      first | exact ⟨(shN_tt c7 c19).symm, rfl⟩ | exact ⟨(shN_tf c7 c19).symm, rfl⟩ | exact ⟨(shN_ft c7 c19).symm, rfl⟩ | exact ⟨(shN_ff c7 c19).symm, rfl⟩
theorem kwX4_feeOf_1 : Cond.fieldLink RX4 15 "CardPort$Kind" "cap" "I" ∈ wsX4_feeOf := List.mem_of_getElem? (i := 1) rfl
theorem htX4_feeOf_wsX401 : ∀ w ∈ wsX40, w ∈ wsX4_feeOf := fun _ h => List.mem_cons_of_mem _ (List.mem_append_right _ h)
theorem kwX4_feeOf_2 : Cond.fieldLink RX4 9 "CardPort$Kind" "rate" "I" ∈ wsX4_feeOf := List.mem_of_getElem? (i := 2) rfl
theorem kwX4_feeOf_3 : Cond.methodLink RX4 21 Lib.Math.min.name ∈ wsX4_feeOf := List.mem_of_getElem? (i := 3) rfl
theorem kwX4_feeOf_4 : Cond.static Lib.Math.min.name ∈ wsX4_feeOf := List.mem_of_getElem? (i := 4) rfl
theorem kwX4_feeOf_5 : Cond.initialized "java/lang/Math" ∈ wsX4_feeOf := List.mem_of_getElem? (i := 5) rfl
theorem kwX4_feeOf_6 : Cond.code Lib.Math.min.name Lib.Math.min.code 2 (some .int) ∈ wsX4_feeOf := List.mem_of_getElem? (i := 6) rfl
set_option maxHeartbeats 4000000 in
set_option maxRecDepth 100000 in
theorem c_X4_feeOf (l : Launch) (D : va_G) (kc : Nat → ClassId) (A : Nat → Prop) (e0 : Nat × Nat) (M : Mp) (h0 rt cp v : Nat) (nb : Int32) (hm : M h0 = some (.inr (5, [.int nb, .int (nI rt), .int (nI cp)]))) (h1 : v * rt < 2147483648) (h2 : cp < 2147483648) : Met l yX4_feeOf wsX4_feeOf ({ frames := 1, cells := 0, slots := 0, locals := 13 }) (mPre D kc A e0 M [.ref h0, .int (nI v)]) (va_Qi (fun r M1 => r = nI (feeN cp rt v) ∧ M1 = M) (mB D A) A) 0 0 A := by
  refine Met.ofW (cc := cX4_feeOf) (maxL := 2) (ret := (some .int)) (by decide) rfl ?_
  intro p e s m args below meth c s₁ B hml hv
  obtain ⟨rfl, hw, hK, hA, hcx⟩ := hv
  have X : mX p s m _ c cX4_feeOf 2 RX4 wsX4_feeOf D kc := ⟨⟨B.exec, B.bytes, hml, findClass_of_methodNamed B.named, atoms_spec (ws := wsX4_feeOf) B.pre⟩, hK⟩
  have hx := B.exec
  have hb := B.bytes
  have hr := B.returns
  have hlocks := B.notSynchronized
  have Y : mY D A M s s.heap [] := ⟨hw, va_S.rf⟩
  have hl := lv_entry ([.ref h0, .int (nI v)]) (n := 2) (Nat.le_of_ble_eq_true rfl)
  rw [lg_entry_eq]
  generalize (lg_sl ([.ref h0, .int (nI v)]) ++ List.replicate (2 - (lg_sl ([.ref h0, .int (nI v)])).length) Slot.unset).toArray = ls at hl ⊢
  have hl : lv_has ls 2 [(0, .ref h0), (1, .int (nI v))] := hl
  refine lv_aload_n hx hb dX4_feeOf_0 rfl (lv_at hl 0 rfl) ?_
  refine m_get (ref := "CardPort$Kind") (C := RX4) (T := TX4) (N := 3) (ci := 5) X Y htX4_feeOf_wsX401 hm rfl 2 (by decide) kwX4_feeOf_1 rfl (v := .int (nI cp)) rfl dX4_feeOf_1 ?_
  refine lv_iload_n hx hb dX4_feeOf_4 rfl (lv_at hl 1 rfl) ?_
  refine lv_aload_n hx hb dX4_feeOf_5 rfl (lv_at hl 0 rfl) ?_
  refine m_get (ref := "CardPort$Kind") (C := RX4) (T := TX4) (N := 3) (ci := 5) X Y htX4_feeOf_wsX401 hm rfl 1 (by decide) kwX4_feeOf_2 rfl (v := .int (nI rt)) rfl dX4_feeOf_6 ?_
  refine n_imul hx hb dX4_feeOf_9 ?_
  refine n_sipush hx hb 1000 dX4_feeOf_10 (by decide) ?_
  refine n_idiv hx hb (by omega) (by omega) (by omega) dX4_feeOf_13 ?_
  refine n_mmin X hl.1 kwX4_feeOf_3 kwX4_feeOf_4 kwX4_feeOf_5 kwX4_feeOf_6 (Nat.le_of_ble_eq_true rfl) (Nat.le_of_ble_eq_true rfl) (by decide) (by decide) (by omega) (by omega) dX4_feeOf_14 ?_
  refine m_iret X Y hr hlocks (by decide) (by decide) ?_ dX4_feeOf_17
  exact ⟨rfl, rfl⟩
theorem kwX0_init_1 : Cond.methodLink RX0 1 objectInit ∈ wsX0_init := List.mem_of_getElem? (i := 1) rfl
theorem kwX0_init_2 : Cond.instanceMethod objectInit ∈ wsX0_init := List.mem_of_getElem? (i := 2) rfl
theorem kwX0_init_3 : Cond.code objectInit ⟨#[0xb1]⟩ 1 none ∈ wsX0_init := List.mem_of_getElem? (i := 3) rfl
theorem kwX0_init_4 : Cond.fieldLink RX0 7 "CardPort$Bank" "netInAll" "J" ∈ wsX0_init := List.mem_of_getElem? (i := 4) rfl
theorem htX0_init_wsX001 : ∀ w ∈ wsX00, w ∈ wsX0_init := fun _ h => List.mem_cons_of_mem _ (List.mem_append_right _ h)
theorem kwX0_init_5 : Cond.fieldLink RX0 13 "CardPort$Bank" "netToday" "J" ∈ wsX0_init := List.mem_of_getElem? (i := 5) rfl
set_option maxHeartbeats 4000000 in
set_option maxRecDepth 100000 in
theorem c_X0_init (l : Launch) (D : va_G) (kc : Nat → ClassId) (A : Nat → Prop) (e0 : Nat × Nat) (M : Mp) (h0 : Nat) (x y : Int64) (hm : M h0 = some (.inr (1, [.long x, .long y]))) : Met l yX0_init wsX0_init ({ frames := 1, cells := 0, slots := 0, locals := 20 }) (mPre D kc A e0 M [.ref h0]) (va_Qv (fun M1 => M1 = mu M h0 (.inr (1, [.long 0, .long 0]))) (mB D A) A) 0 0 A := by
  refine Met.ofW (cc := cX0_init) (maxL := 1) (ret := none) (by decide) rfl ?_
  intro p e s m args below meth c s₁ B hml hv
  obtain ⟨rfl, hw, hK, hA, hcx⟩ := hv
  have X : mX p s m _ c cX0_init 1 RX0 wsX0_init D kc := ⟨⟨B.exec, B.bytes, hml, findClass_of_methodNamed B.named, atoms_spec (ws := wsX0_init) B.pre⟩, hK⟩
  have hx := B.exec
  have hb := B.bytes
  have hr := B.returns
  have hlocks := B.notSynchronized
  have hin : meth.name = "<init>" := (name_of_methodNamed B.named B.method).1
  have Y : mY D A M s s.heap [] := ⟨hw, va_S.rf⟩
  have hl := lv_entry ([.ref h0]) (n := 1) (Nat.le_of_ble_eq_true rfl)
  rw [lg_entry_eq]
  generalize (lg_sl ([.ref h0]) ++ List.replicate (1 - (lg_sl ([.ref h0])).length) Slot.unset).toArray = ls at hl ⊢
  have hl : lv_has ls 1 [(0, .ref h0)] := hl
  refine lv_aload_n hx hb dX0_init_0 rfl (lv_at hl 0 rfl) ?_
  refine W.objInit hx hb X.1.2.2.2.1 (X.1.2.2.2.2 _ kwX0_init_1) (X.1.2.2.2.2 _ kwX0_init_2) (X.1.2.2.2.2 _ kwX0_init_3) rfl (by rw [hml]; exact hl.1) rfl dX0_init_1 (Nat.le_of_ble_eq_true rfl) (Nat.le_of_ble_eq_true rfl) ?_
  refine W.eq (g2 := F0 m 4 ls []) rfl ?_
  refine lv_aload_n hx hb dX0_init_4 rfl (lv_at hl 0 rfl) ?_
  refine lv_lconst (v := 0) hx hb dX0_init_5 (by decide) ?_
  refine m_put (ref := "CardPort$Bank") (C := RX0) (T := TX0) (N := 2) (ci := 1) X Y htX0_init_wsX001 tyX0 tyX0_ok nmX0 hm rfl 0 (by decide) kwX0_init_4 rfl rfl (v := .long 0) rfl rfl (Nat.le_of_ble_eq_true rfl) dX0_init_6 (fun H locs Y => ?_)
  obtain ⟨M1, eM1⟩ : ∃ zz9 : Mp, zz9 = mu M h0 (.inr (1, [.long 0, .long y])) := ⟨_, rfl⟩
  have Y : mY D A M1 s H locs := by rw [eM1]; exact Y
  have hh2 : M1 h0 = some (.inr (1, [.long 0, .long y])) := by rw [eM1]; exact mu_self _ _ _
  refine lv_aload_n hx hb dX0_init_9 rfl (lv_at hl 0 rfl) ?_
  refine lv_lconst (v := 0) hx hb dX0_init_10 (by decide) ?_
  refine m_put (ref := "CardPort$Bank") (C := RX0) (T := TX0) (N := 2) (ci := 1) X Y htX0_init_wsX001 tyX0 tyX0_ok nmX0 hh2 rfl 1 (by decide) kwX0_init_5 rfl rfl (v := .long 0) rfl rfl (Nat.le_of_ble_eq_true rfl) dX0_init_11 (fun H locs Y => ?_)
  obtain ⟨M3, eM3⟩ : ∃ zz9 : Mp, zz9 = mu M1 h0 (.inr (1, [.long 0, .long 0])) := ⟨_, rfl⟩
  have Y : mY D A M3 s H locs := by rw [eM3]; exact Y
  have hh4 : M3 h0 = some (.inr (1, [.long 0, .long 0])) := by rw [eM3]; exact mu_self _ _ _
  refine m_vret X Y hr hlocks (by decide) (by decide) ?_ dX0_init_14
  rw [eM3, eM1, mu_mu]
theorem kwX2_init_1 : Cond.methodLink RX2 1 objectInit ∈ wsX2_init := List.mem_of_getElem? (i := 1) rfl
theorem kwX2_init_2 : Cond.instanceMethod objectInit ∈ wsX2_init := List.mem_of_getElem? (i := 2) rfl
theorem kwX2_init_3 : Cond.code objectInit ⟨#[0xb1]⟩ 1 none ∈ wsX2_init := List.mem_of_getElem? (i := 3) rfl
theorem kwX2_init_4 : Cond.fieldLink RX2 7 "CardPort$Card" "number" "I" ∈ wsX2_init := List.mem_of_getElem? (i := 4) rfl
theorem htX2_init_wsX201 : ∀ w ∈ wsX20, w ∈ wsX2_init := fun _ h => List.mem_cons_of_mem _ (List.mem_append_right _ h)
theorem kwX2_init_5 : Cond.fieldLink RX2 13 "CardPort$Card" "bank" "LCardPort$Bank;" ∈ wsX2_init := List.mem_of_getElem? (i := 5) rfl
set_option maxHeartbeats 4000000 in
set_option maxRecDepth 100000 in
theorem c_X2_init (l : Launch) (D : va_G) (kc : Nat → ClassId) (A : Nat → Prop) (e0 : Nat × Nat) (M : Mp) (h0 k b : Nat) (x : Int32) (hm : M h0 = some (.inr (3, [.int x, .null]))) : Met l yX2_init wsX2_init ({ frames := 1, cells := 0, slots := 0, locals := 20 }) (mPre D kc A e0 M [.ref h0, .int (nI k), .ref b]) (va_Qv (fun M1 => M1 = mu M h0 (.inr (3, [.int (nI k), .ref b]))) (mB D A) A) 0 0 A := by
  refine Met.ofW (cc := cX2_init) (maxL := 3) (ret := none) (by decide) rfl ?_
  intro p e s m args below meth c s₁ B hml hv
  obtain ⟨rfl, hw, hK, hA, hcx⟩ := hv
  have X : mX p s m _ c cX2_init 3 RX2 wsX2_init D kc := ⟨⟨B.exec, B.bytes, hml, findClass_of_methodNamed B.named, atoms_spec (ws := wsX2_init) B.pre⟩, hK⟩
  have hx := B.exec
  have hb := B.bytes
  have hr := B.returns
  have hlocks := B.notSynchronized
  have hin : meth.name = "<init>" := (name_of_methodNamed B.named B.method).1
  have Y : mY D A M s s.heap [] := ⟨hw, va_S.rf⟩
  have hl := lv_entry ([.ref h0, .int (nI k), .ref b]) (n := 3) (Nat.le_of_ble_eq_true rfl)
  rw [lg_entry_eq]
  generalize (lg_sl ([.ref h0, .int (nI k), .ref b]) ++ List.replicate (3 - (lg_sl ([.ref h0, .int (nI k), .ref b])).length) Slot.unset).toArray = ls at hl ⊢
  have hl : lv_has ls 3 [(0, .ref h0), (1, .int (nI k)), (2, .ref b)] := hl
  refine lv_aload_n hx hb dX2_init_0 rfl (lv_at hl 0 rfl) ?_
  refine W.objInit hx hb X.1.2.2.2.1 (X.1.2.2.2.2 _ kwX2_init_1) (X.1.2.2.2.2 _ kwX2_init_2) (X.1.2.2.2.2 _ kwX2_init_3) rfl (by rw [hml]; exact hl.1) rfl dX2_init_1 (Nat.le_of_ble_eq_true rfl) (Nat.le_of_ble_eq_true rfl) ?_
  refine W.eq (g2 := F0 m 4 ls []) rfl ?_
  refine lv_aload_n hx hb dX2_init_4 rfl (lv_at hl 0 rfl) ?_
  refine lv_iload_n hx hb dX2_init_5 rfl (lv_at hl 1 rfl) ?_
  refine m_putF (ref := "CardPort$Card") (C := RX2) (T := TX2) (N := 2) (ci := 3) X Y htX2_init_wsX201 tyX2 tyX2_ok nmX2 hin hm rfl 0 (by decide) kwX2_init_4 rfl rfl rfl (v := .int (nI k)) rfl rfl (Nat.le_of_ble_eq_true rfl) dX2_init_6 (fun H locs Y => ?_)
  obtain ⟨M1, eM1⟩ : ∃ zz9 : Mp, zz9 = mu M h0 (.inr (3, [.int (nI k), .null])) := ⟨_, rfl⟩
  have Y : mY D A M1 s H locs := by rw [eM1]; exact Y
  have hh2 : M1 h0 = some (.inr (3, [.int (nI k), .null])) := by rw [eM1]; exact mu_self _ _ _
  refine lv_aload_n hx hb dX2_init_9 rfl (lv_at hl 0 rfl) ?_
  refine lv_aload_n hx hb dX2_init_10 rfl (lv_at hl 2 rfl) ?_
  refine m_putF (ref := "CardPort$Card") (C := RX2) (T := TX2) (N := 2) (ci := 3) X Y htX2_init_wsX201 tyX2 tyX2_ok nmX2 hin hh2 rfl 1 (by decide) kwX2_init_5 rfl rfl rfl (v := .ref b) rfl rfl (Nat.le_of_ble_eq_true rfl) dX2_init_11 (fun H locs Y => ?_)
  obtain ⟨M3, eM3⟩ : ∃ zz9 : Mp, zz9 = mu M1 h0 (.inr (3, [.int (nI k), .ref b])) := ⟨_, rfl⟩
  have Y : mY D A M3 s H locs := by rw [eM3]; exact Y
  have hh4 : M3 h0 = some (.inr (3, [.int (nI k), .ref b])) := by rw [eM3]; exact mu_self _ _ _
  refine m_vret X Y hr hlocks (by decide) (by decide) ?_ dX2_init_14
  rw [eM3, eM1, mu_mu]
theorem kwX4_init_1 : Cond.methodLink RX4 3 objectInit ∈ wsX4_init := List.mem_of_getElem? (i := 1) rfl
theorem kwX4_init_2 : Cond.instanceMethod objectInit ∈ wsX4_init := List.mem_of_getElem? (i := 2) rfl
theorem kwX4_init_3 : Cond.code objectInit ⟨#[0xb1]⟩ 1 none ∈ wsX4_init := List.mem_of_getElem? (i := 3) rfl
theorem kwX4_init_4 : Cond.fieldLink RX4 9 "CardPort$Kind" "rate" "I" ∈ wsX4_init := List.mem_of_getElem? (i := 4) rfl
theorem htX4_init_wsX401 : ∀ w ∈ wsX40, w ∈ wsX4_init := fun _ h => List.mem_cons_of_mem _ (List.mem_append_right _ h)
theorem kwX4_init_5 : Cond.fieldLink RX4 15 "CardPort$Kind" "cap" "I" ∈ wsX4_init := List.mem_of_getElem? (i := 5) rfl
theorem kwX4_init_6 : Cond.fieldLink RX4 18 "CardPort$Kind" "number" "I" ∈ wsX4_init := List.mem_of_getElem? (i := 6) rfl
set_option maxHeartbeats 4000000 in
set_option maxRecDepth 100000 in
theorem c_X4_init (l : Launch) (D : va_G) (kc : Nat → ClassId) (A : Nat → Prop) (e0 : Nat × Nat) (M : Mp) (h0 k : Nat) (x y z : Int32) (hm : M h0 = some (.inr (5, [.int x, .int y, .int z]))) : Met l yX4_init wsX4_init ({ frames := 1, cells := 0, slots := 0, locals := 20 }) (mPre D kc A e0 M [.ref h0, .int (nI k)]) (va_Qv (fun M1 => M1 = mu M h0 (.inr (5, [.int (nI k), .int (nI 10), .int (nI 500)]))) (mB D A) A) 0 0 A := by
  refine Met.ofW (cc := cX4_init) (maxL := 2) (ret := none) (by decide) rfl ?_
  intro p e s m args below meth c s₁ B hml hv
  obtain ⟨rfl, hw, hK, hA, hcx⟩ := hv
  have X : mX p s m _ c cX4_init 2 RX4 wsX4_init D kc := ⟨⟨B.exec, B.bytes, hml, findClass_of_methodNamed B.named, atoms_spec (ws := wsX4_init) B.pre⟩, hK⟩
  have hx := B.exec
  have hb := B.bytes
  have hr := B.returns
  have hlocks := B.notSynchronized
  have hin : meth.name = "<init>" := (name_of_methodNamed B.named B.method).1
  have Y : mY D A M s s.heap [] := ⟨hw, va_S.rf⟩
  have hl := lv_entry ([.ref h0, .int (nI k)]) (n := 2) (Nat.le_of_ble_eq_true rfl)
  rw [lg_entry_eq]
  generalize (lg_sl ([.ref h0, .int (nI k)]) ++ List.replicate (2 - (lg_sl ([.ref h0, .int (nI k)])).length) Slot.unset).toArray = ls at hl ⊢
  have hl : lv_has ls 2 [(0, .ref h0), (1, .int (nI k))] := hl
  refine lv_aload_n hx hb dX4_init_0 rfl (lv_at hl 0 rfl) ?_
  refine W.objInit hx hb X.1.2.2.2.1 (X.1.2.2.2.2 _ kwX4_init_1) (X.1.2.2.2.2 _ kwX4_init_2) (X.1.2.2.2.2 _ kwX4_init_3) rfl (by rw [hml]; exact hl.1) rfl dX4_init_1 (Nat.le_of_ble_eq_true rfl) (Nat.le_of_ble_eq_true rfl) ?_
  refine W.eq (g2 := F0 m 4 ls []) rfl ?_
  refine lv_aload_n hx hb dX4_init_4 rfl (lv_at hl 0 rfl) ?_
  refine n_bipush hx hb 10 dX4_init_5 (by decide) ?_
  refine m_put (ref := "CardPort$Kind") (C := RX4) (T := TX4) (N := 3) (ci := 5) X Y htX4_init_wsX401 tyX4 tyX4_ok nmX4 hm rfl 1 (by decide) kwX4_init_4 rfl rfl (v := .int (nI 10)) rfl rfl (Nat.le_of_ble_eq_true rfl) dX4_init_7 (fun H locs Y => ?_)
  obtain ⟨M1, eM1⟩ : ∃ zz9 : Mp, zz9 = mu M h0 (.inr (5, [.int x, .int (nI 10), .int z])) := ⟨_, rfl⟩
  have Y : mY D A M1 s H locs := by rw [eM1]; exact Y
  have hh2 : M1 h0 = some (.inr (5, [.int x, .int (nI 10), .int z])) := by rw [eM1]; exact mu_self _ _ _
  refine lv_aload_n hx hb dX4_init_10 rfl (lv_at hl 0 rfl) ?_
  refine n_sipush hx hb 500 dX4_init_11 (by decide) ?_
  refine m_put (ref := "CardPort$Kind") (C := RX4) (T := TX4) (N := 3) (ci := 5) X Y htX4_init_wsX401 tyX4 tyX4_ok nmX4 hh2 rfl 2 (by decide) kwX4_init_5 rfl rfl (v := .int (nI 500)) rfl rfl (Nat.le_of_ble_eq_true rfl) dX4_init_14 (fun H locs Y => ?_)
  obtain ⟨M3, eM3⟩ : ∃ zz9 : Mp, zz9 = mu M1 h0 (.inr (5, [.int x, .int (nI 10), .int (nI 500)])) := ⟨_, rfl⟩
  have Y : mY D A M3 s H locs := by rw [eM3]; exact Y
  have hh4 : M3 h0 = some (.inr (5, [.int x, .int (nI 10), .int (nI 500)])) := by rw [eM3]; exact mu_self _ _ _
  refine lv_aload_n hx hb dX4_init_17 rfl (lv_at hl 0 rfl) ?_
  refine lv_iload_n hx hb dX4_init_18 rfl (lv_at hl 1 rfl) ?_
  refine m_putF (ref := "CardPort$Kind") (C := RX4) (T := TX4) (N := 3) (ci := 5) X Y htX4_init_wsX401 tyX4 tyX4_ok nmX4 hin hh4 rfl 0 (by decide) kwX4_init_6 rfl rfl rfl (v := .int (nI k)) rfl rfl (Nat.le_of_ble_eq_true rfl) dX4_init_19 (fun H locs Y => ?_)
  obtain ⟨M5, eM5⟩ : ∃ zz9 : Mp, zz9 = mu M3 h0 (.inr (5, [.int (nI k), .int (nI 10), .int (nI 500)])) := ⟨_, rfl⟩
  have Y : mY D A M5 s H locs := by rw [eM5]; exact Y
  have hh6 : M5 h0 = some (.inr (5, [.int (nI k), .int (nI 10), .int (nI 500)])) := by rw [eM5]; exact mu_self _ _ _
  refine m_vret X Y hr hlocks (by decide) (by decide) ?_ dX4_init_22
  rw [eM5, eM3, mu_mu, eM1, mu_mu]
theorem kwX6_init_1 : Cond.methodLink RX6 1 objectInit ∈ wsX6_init := List.mem_of_getElem? (i := 1) rfl
theorem kwX6_init_2 : Cond.instanceMethod objectInit ∈ wsX6_init := List.mem_of_getElem? (i := 2) rfl
theorem kwX6_init_3 : Cond.code objectInit ⟨#[0xb1]⟩ 1 none ∈ wsX6_init := List.mem_of_getElem? (i := 3) rfl
theorem kwX6_init_4 : Cond.fieldLink RX6 7 "CardPort$Shop" "number" "I" ∈ wsX6_init := List.mem_of_getElem? (i := 4) rfl
theorem htX6_init_wsX601 : ∀ w ∈ wsX60, w ∈ wsX6_init := fun _ h => List.mem_cons_of_mem _ (List.mem_append_right _ h)
theorem kwX6_init_5 : Cond.fieldLink RX6 13 "CardPort$Shop" "bank" "LCardPort$Bank;" ∈ wsX6_init := List.mem_of_getElem? (i := 5) rfl
theorem kwX6_init_6 : Cond.fieldLink RX6 17 "CardPort$Shop" "kind" "LCardPort$Kind;" ∈ wsX6_init := List.mem_of_getElem? (i := 6) rfl
set_option maxHeartbeats 4000000 in
set_option maxRecDepth 100000 in
theorem c_X6_init (l : Launch) (D : va_G) (kc : Nat → ClassId) (A : Nat → Prop) (e0 : Nat × Nat) (M : Mp) (h0 k b d : Nat) (x : Int32) (hm : M h0 = some (.inr (7, [.int x, .null, .null]))) : Met l yX6_init wsX6_init ({ frames := 1, cells := 0, slots := 0, locals := 20 }) (mPre D kc A e0 M [.ref h0, .int (nI k), .ref b, .ref d]) (va_Qv (fun M1 => M1 = mu M h0 (.inr (7, [.int (nI k), .ref b, .ref d]))) (mB D A) A) 0 0 A := by
  refine Met.ofW (cc := cX6_init) (maxL := 4) (ret := none) (by decide) rfl ?_
  intro p e s m args below meth c s₁ B hml hv
  obtain ⟨rfl, hw, hK, hA, hcx⟩ := hv
  have X : mX p s m _ c cX6_init 4 RX6 wsX6_init D kc := ⟨⟨B.exec, B.bytes, hml, findClass_of_methodNamed B.named, atoms_spec (ws := wsX6_init) B.pre⟩, hK⟩
  have hx := B.exec
  have hb := B.bytes
  have hr := B.returns
  have hlocks := B.notSynchronized
  have hin : meth.name = "<init>" := (name_of_methodNamed B.named B.method).1
  have Y : mY D A M s s.heap [] := ⟨hw, va_S.rf⟩
  have hl := lv_entry ([.ref h0, .int (nI k), .ref b, .ref d]) (n := 4) (Nat.le_of_ble_eq_true rfl)
  rw [lg_entry_eq]
  generalize (lg_sl ([.ref h0, .int (nI k), .ref b, .ref d]) ++ List.replicate (4 - (lg_sl ([.ref h0, .int (nI k), .ref b, .ref d])).length) Slot.unset).toArray = ls at hl ⊢
  have hl : lv_has ls 4 [(0, .ref h0), (1, .int (nI k)), (2, .ref b), (3, .ref d)] := hl
  refine lv_aload_n hx hb dX6_init_0 rfl (lv_at hl 0 rfl) ?_
  refine W.objInit hx hb X.1.2.2.2.1 (X.1.2.2.2.2 _ kwX6_init_1) (X.1.2.2.2.2 _ kwX6_init_2) (X.1.2.2.2.2 _ kwX6_init_3) rfl (by rw [hml]; exact hl.1) rfl dX6_init_1 (Nat.le_of_ble_eq_true rfl) (Nat.le_of_ble_eq_true rfl) ?_
  refine W.eq (g2 := F0 m 4 ls []) rfl ?_
  refine lv_aload_n hx hb dX6_init_4 rfl (lv_at hl 0 rfl) ?_
  refine lv_iload_n hx hb dX6_init_5 rfl (lv_at hl 1 rfl) ?_
  refine m_putF (ref := "CardPort$Shop") (C := RX6) (T := TX6) (N := 3) (ci := 7) X Y htX6_init_wsX601 tyX6 tyX6_ok nmX6 hin hm rfl 0 (by decide) kwX6_init_4 rfl rfl rfl (v := .int (nI k)) rfl rfl (Nat.le_of_ble_eq_true rfl) dX6_init_6 (fun H locs Y => ?_)
  obtain ⟨M1, eM1⟩ : ∃ zz9 : Mp, zz9 = mu M h0 (.inr (7, [.int (nI k), .null, .null])) := ⟨_, rfl⟩
  have Y : mY D A M1 s H locs := by rw [eM1]; exact Y
  have hh2 : M1 h0 = some (.inr (7, [.int (nI k), .null, .null])) := by rw [eM1]; exact mu_self _ _ _
  refine lv_aload_n hx hb dX6_init_9 rfl (lv_at hl 0 rfl) ?_
  refine lv_aload_n hx hb dX6_init_10 rfl (lv_at hl 2 rfl) ?_
  refine m_putF (ref := "CardPort$Shop") (C := RX6) (T := TX6) (N := 3) (ci := 7) X Y htX6_init_wsX601 tyX6 tyX6_ok nmX6 hin hh2 rfl 1 (by decide) kwX6_init_5 rfl rfl rfl (v := .ref b) rfl rfl (Nat.le_of_ble_eq_true rfl) dX6_init_11 (fun H locs Y => ?_)
  obtain ⟨M3, eM3⟩ : ∃ zz9 : Mp, zz9 = mu M1 h0 (.inr (7, [.int (nI k), .ref b, .null])) := ⟨_, rfl⟩
  have Y : mY D A M3 s H locs := by rw [eM3]; exact Y
  have hh4 : M3 h0 = some (.inr (7, [.int (nI k), .ref b, .null])) := by rw [eM3]; exact mu_self _ _ _
  refine lv_aload_n hx hb dX6_init_14 rfl (lv_at hl 0 rfl) ?_
  refine lv_aload_n hx hb dX6_init_15 rfl (lv_at hl 3 rfl) ?_
  refine m_put (ref := "CardPort$Shop") (C := RX6) (T := TX6) (N := 3) (ci := 7) X Y htX6_init_wsX601 tyX6 tyX6_ok nmX6 hh4 rfl 2 (by decide) kwX6_init_6 rfl rfl (v := .ref d) rfl rfl (Nat.le_of_ble_eq_true rfl) dX6_init_16 (fun H locs Y => ?_)
  obtain ⟨M5, eM5⟩ : ∃ zz9 : Mp, zz9 = mu M3 h0 (.inr (7, [.int (nI k), .ref b, .ref d])) := ⟨_, rfl⟩
  have Y : mY D A M5 s H locs := by rw [eM5]; exact Y
  have hh6 : M5 h0 = some (.inr (7, [.int (nI k), .ref b, .ref d])) := by rw [eM5]; exact mu_self _ _ _
  refine m_vret X Y hr hlocks (by decide) (by decide) ?_ dX6_init_19
  rw [eM5, eM3, mu_mu, eM1, mu_mu]
theorem kwX5_init_1 : Cond.methodLink RX5 1 objectInit ∈ wsX5_init := List.mem_of_getElem? (i := 1) rfl
theorem kwX5_init_2 : Cond.instanceMethod objectInit ∈ wsX5_init := List.mem_of_getElem? (i := 2) rfl
theorem kwX5_init_3 : Cond.code objectInit ⟨#[0xb1]⟩ 1 none ∈ wsX5_init := List.mem_of_getElem? (i := 3) rfl
theorem kwX5_init_4 : Cond.fieldLink RX5 7 "CardPort$Payment" "captured" "I" ∈ wsX5_init := List.mem_of_getElem? (i := 4) rfl
theorem htX5_init_wsX501 : ∀ w ∈ wsX50, w ∈ wsX5_init := fun _ h => List.mem_cons_of_mem _ (List.mem_append_right _ h)
theorem kwX5_init_5 : Cond.fieldLink RX5 13 "CardPort$Payment" "isVoid" "Z" ∈ wsX5_init := List.mem_of_getElem? (i := 5) rfl
theorem kwX5_init_6 : Cond.fieldLink RX5 17 "CardPort$Payment" "number" "I" ∈ wsX5_init := List.mem_of_getElem? (i := 6) rfl
theorem kwX5_init_7 : Cond.fieldLink RX5 20 "CardPort$Payment" "card" "LCardPort$Card;" ∈ wsX5_init := List.mem_of_getElem? (i := 7) rfl
theorem kwX5_init_8 : Cond.fieldLink RX5 24 "CardPort$Payment" "shop" "LCardPort$Shop;" ∈ wsX5_init := List.mem_of_getElem? (i := 8) rfl
theorem kwX5_init_9 : Cond.fieldLink RX5 28 "CardPort$Payment" "amount" "I" ∈ wsX5_init := List.mem_of_getElem? (i := 9) rfl
theorem kwX5_init_10 : Cond.fieldLink RX5 31 "CardPort$Payment" "lastDay" "I" ∈ wsX5_init := List.mem_of_getElem? (i := 10) rfl
set_option maxHeartbeats 4000000 in
set_option maxRecDepth 100000 in
theorem c_X5_init (l : Launch) (D : va_G) (kc : Nat → ClassId) (A : Nat → Prop) (e0 : Nat × Nat) (M : Mp) (h0 k c1 s1 v ld : Nat) (x y z u w : Int32) (hm : M h0 = some (.inr (6, [.int x, .null, .null, .int y, .int z, .int u, .int w]))) : Met l yX5_init wsX5_init ({ frames := 1, cells := 0, slots := 0, locals := 20 }) (mPre D kc A e0 M [.ref h0, .int (nI k), .ref c1, .ref s1, .int (nI v), .int (nI ld)]) (va_Qv (fun M1 => M1 = mu M h0 (.inr (6, [.int (nI k), .ref c1, .ref s1, .int (nI v), .int (nI ld), .int (nI 0), .int (nI 0)]))) (mB D A) A) 0 0 A := by
  refine Met.ofW (cc := cX5_init) (maxL := 6) (ret := none) (by decide) rfl ?_
  intro p e s m args below meth c s₁ B hml hv
  obtain ⟨rfl, hw, hK, hA, hcx⟩ := hv
  have X : mX p s m _ c cX5_init 6 RX5 wsX5_init D kc := ⟨⟨B.exec, B.bytes, hml, findClass_of_methodNamed B.named, atoms_spec (ws := wsX5_init) B.pre⟩, hK⟩
  have hx := B.exec
  have hb := B.bytes
  have hr := B.returns
  have hlocks := B.notSynchronized
  have hin : meth.name = "<init>" := (name_of_methodNamed B.named B.method).1
  have Y : mY D A M s s.heap [] := ⟨hw, va_S.rf⟩
  have hl := lv_entry ([.ref h0, .int (nI k), .ref c1, .ref s1, .int (nI v), .int (nI ld)]) (n := 6) (Nat.le_of_ble_eq_true rfl)
  rw [lg_entry_eq]
  generalize (lg_sl ([.ref h0, .int (nI k), .ref c1, .ref s1, .int (nI v), .int (nI ld)]) ++ List.replicate (6 - (lg_sl ([.ref h0, .int (nI k), .ref c1, .ref s1, .int (nI v), .int (nI ld)])).length) Slot.unset).toArray = ls at hl ⊢
  have hl : lv_has ls 6 [(0, .ref h0), (1, .int (nI k)), (2, .ref c1), (3, .ref s1), (4, .int (nI v)), (5, .int (nI ld))] := hl
  refine lv_aload_n hx hb dX5_init_0 rfl (lv_at hl 0 rfl) ?_
  refine W.objInit hx hb X.1.2.2.2.1 (X.1.2.2.2.2 _ kwX5_init_1) (X.1.2.2.2.2 _ kwX5_init_2) (X.1.2.2.2.2 _ kwX5_init_3) rfl (by rw [hml]; exact hl.1) rfl dX5_init_1 (Nat.le_of_ble_eq_true rfl) (Nat.le_of_ble_eq_true rfl) ?_
  refine W.eq (g2 := F0 m 4 ls []) rfl ?_
  refine lv_aload_n hx hb dX5_init_4 rfl (lv_at hl 0 rfl) ?_
  refine n_iconst hx hb 0 dX5_init_5 (by decide) ?_
  refine m_put (ref := "CardPort$Payment") (C := RX5) (T := TX5) (N := 7) (ci := 6) X Y htX5_init_wsX501 tyX5 tyX5_ok nmX5 hm rfl 5 (by decide) kwX5_init_4 rfl rfl (v := .int (nI 0)) rfl rfl (Nat.le_of_ble_eq_true rfl) dX5_init_6 (fun H locs Y => ?_)
  obtain ⟨M1, eM1⟩ : ∃ zz9 : Mp, zz9 = mu M h0 (.inr (6, [.int x, .null, .null, .int y, .int z, .int (nI 0), .int w])) := ⟨_, rfl⟩
  have Y : mY D A M1 s H locs := by rw [eM1]; exact Y
  have hh2 : M1 h0 = some (.inr (6, [.int x, .null, .null, .int y, .int z, .int (nI 0), .int w])) := by rw [eM1]; exact mu_self _ _ _
  refine lv_aload_n hx hb dX5_init_9 rfl (lv_at hl 0 rfl) ?_
  refine n_iconst hx hb 0 dX5_init_10 (by decide) ?_
  refine m_put (ref := "CardPort$Payment") (C := RX5) (T := TX5) (N := 7) (ci := 6) X Y htX5_init_wsX501 tyX5 tyX5_ok nmX5 hh2 rfl 6 (by decide) kwX5_init_5 rfl rfl (v := .int (nI 0)) rfl rfl (Nat.le_of_ble_eq_true rfl) dX5_init_11 (fun H locs Y => ?_)
  obtain ⟨M3, eM3⟩ : ∃ zz9 : Mp, zz9 = mu M1 h0 (.inr (6, [.int x, .null, .null, .int y, .int z, .int (nI 0), .int (nI 0)])) := ⟨_, rfl⟩
  have Y : mY D A M3 s H locs := by rw [eM3]; exact Y
  have hh4 : M3 h0 = some (.inr (6, [.int x, .null, .null, .int y, .int z, .int (nI 0), .int (nI 0)])) := by rw [eM3]; exact mu_self _ _ _
  refine lv_aload_n hx hb dX5_init_14 rfl (lv_at hl 0 rfl) ?_
  refine lv_iload_n hx hb dX5_init_15 rfl (lv_at hl 1 rfl) ?_
  refine m_putF (ref := "CardPort$Payment") (C := RX5) (T := TX5) (N := 7) (ci := 6) X Y htX5_init_wsX501 tyX5 tyX5_ok nmX5 hin hh4 rfl 0 (by decide) kwX5_init_6 rfl rfl rfl (v := .int (nI k)) rfl rfl (Nat.le_of_ble_eq_true rfl) dX5_init_16 (fun H locs Y => ?_)
  obtain ⟨M5, eM5⟩ : ∃ zz9 : Mp, zz9 = mu M3 h0 (.inr (6, [.int (nI k), .null, .null, .int y, .int z, .int (nI 0), .int (nI 0)])) := ⟨_, rfl⟩
  have Y : mY D A M5 s H locs := by rw [eM5]; exact Y
  have hh6 : M5 h0 = some (.inr (6, [.int (nI k), .null, .null, .int y, .int z, .int (nI 0), .int (nI 0)])) := by rw [eM5]; exact mu_self _ _ _
  refine lv_aload_n hx hb dX5_init_19 rfl (lv_at hl 0 rfl) ?_
  refine lv_aload_n hx hb dX5_init_20 rfl (lv_at hl 2 rfl) ?_
  refine m_putF (ref := "CardPort$Payment") (C := RX5) (T := TX5) (N := 7) (ci := 6) X Y htX5_init_wsX501 tyX5 tyX5_ok nmX5 hin hh6 rfl 1 (by decide) kwX5_init_7 rfl rfl rfl (v := .ref c1) rfl rfl (Nat.le_of_ble_eq_true rfl) dX5_init_21 (fun H locs Y => ?_)
  obtain ⟨M7, eM7⟩ : ∃ zz9 : Mp, zz9 = mu M5 h0 (.inr (6, [.int (nI k), .ref c1, .null, .int y, .int z, .int (nI 0), .int (nI 0)])) := ⟨_, rfl⟩
  have Y : mY D A M7 s H locs := by rw [eM7]; exact Y
  have hh8 : M7 h0 = some (.inr (6, [.int (nI k), .ref c1, .null, .int y, .int z, .int (nI 0), .int (nI 0)])) := by rw [eM7]; exact mu_self _ _ _
  refine lv_aload_n hx hb dX5_init_24 rfl (lv_at hl 0 rfl) ?_
  refine lv_aload_n hx hb dX5_init_25 rfl (lv_at hl 3 rfl) ?_
  refine m_putF (ref := "CardPort$Payment") (C := RX5) (T := TX5) (N := 7) (ci := 6) X Y htX5_init_wsX501 tyX5 tyX5_ok nmX5 hin hh8 rfl 2 (by decide) kwX5_init_8 rfl rfl rfl (v := .ref s1) rfl rfl (Nat.le_of_ble_eq_true rfl) dX5_init_26 (fun H locs Y => ?_)
  obtain ⟨M9, eM9⟩ : ∃ zz9 : Mp, zz9 = mu M7 h0 (.inr (6, [.int (nI k), .ref c1, .ref s1, .int y, .int z, .int (nI 0), .int (nI 0)])) := ⟨_, rfl⟩
  have Y : mY D A M9 s H locs := by rw [eM9]; exact Y
  have hh10 : M9 h0 = some (.inr (6, [.int (nI k), .ref c1, .ref s1, .int y, .int z, .int (nI 0), .int (nI 0)])) := by rw [eM9]; exact mu_self _ _ _
  refine lv_aload_n hx hb dX5_init_29 rfl (lv_at hl 0 rfl) ?_
  refine lv_iload hx hb dX5_init_30 (lv_at hl 4 rfl) ?_
  refine m_putF (ref := "CardPort$Payment") (C := RX5) (T := TX5) (N := 7) (ci := 6) X Y htX5_init_wsX501 tyX5 tyX5_ok nmX5 hin hh10 rfl 3 (by decide) kwX5_init_9 rfl rfl rfl (v := .int (nI v)) rfl rfl (Nat.le_of_ble_eq_true rfl) dX5_init_32 (fun H locs Y => ?_)
  obtain ⟨M11, eM11⟩ : ∃ zz9 : Mp, zz9 = mu M9 h0 (.inr (6, [.int (nI k), .ref c1, .ref s1, .int (nI v), .int z, .int (nI 0), .int (nI 0)])) := ⟨_, rfl⟩
  have Y : mY D A M11 s H locs := by rw [eM11]; exact Y
  have hh12 : M11 h0 = some (.inr (6, [.int (nI k), .ref c1, .ref s1, .int (nI v), .int z, .int (nI 0), .int (nI 0)])) := by rw [eM11]; exact mu_self _ _ _
  refine lv_aload_n hx hb dX5_init_35 rfl (lv_at hl 0 rfl) ?_
  refine lv_iload hx hb dX5_init_36 (lv_at hl 5 rfl) ?_
  refine m_putF (ref := "CardPort$Payment") (C := RX5) (T := TX5) (N := 7) (ci := 6) X Y htX5_init_wsX501 tyX5 tyX5_ok nmX5 hin hh12 rfl 4 (by decide) kwX5_init_10 rfl rfl rfl (v := .int (nI ld)) rfl rfl (Nat.le_of_ble_eq_true rfl) dX5_init_38 (fun H locs Y => ?_)
  obtain ⟨M13, eM13⟩ : ∃ zz9 : Mp, zz9 = mu M11 h0 (.inr (6, [.int (nI k), .ref c1, .ref s1, .int (nI v), .int (nI ld), .int (nI 0), .int (nI 0)])) := ⟨_, rfl⟩
  have Y : mY D A M13 s H locs := by rw [eM13]; exact Y
  have hh14 : M13 h0 = some (.inr (6, [.int (nI k), .ref c1, .ref s1, .int (nI v), .int (nI ld), .int (nI 0), .int (nI 0)])) := by rw [eM13]; exact mu_self _ _ _
  refine m_vret X Y hr hlocks (by decide) (by decide) ?_ dX5_init_41
  rw [eM13, eM11, mu_mu, eM9, mu_mu, eM7, mu_mu, eM5, mu_mu, eM3, mu_mu, eM1, mu_mu]
theorem kwX1_init_1 : Cond.methodLink RX1 1 objectInit ∈ wsX1_init := List.mem_of_getElem? (i := 1) rfl
theorem kwX1_init_2 : Cond.instanceMethod objectInit ∈ wsX1_init := List.mem_of_getElem? (i := 2) rfl
theorem kwX1_init_3 : Cond.code objectInit ⟨#[0xb1]⟩ 1 none ∈ wsX1_init := List.mem_of_getElem? (i := 3) rfl
theorem kwX1_init_4 : Cond.fieldLink RX1 7 "CardPort$Capture" "refunded" "I" ∈ wsX1_init := List.mem_of_getElem? (i := 4) rfl
theorem htX1_init_wsX101 : ∀ w ∈ wsX10, w ∈ wsX1_init := fun _ h => List.mem_cons_of_mem _ (List.mem_append_right _ h)
theorem kwX1_init_5 : Cond.fieldLink RX1 13 "CardPort$Capture" "number" "I" ∈ wsX1_init := List.mem_of_getElem? (i := 5) rfl
theorem kwX1_init_6 : Cond.fieldLink RX1 16 "CardPort$Capture" "payment" "LCardPort$Payment;" ∈ wsX1_init := List.mem_of_getElem? (i := 6) rfl
theorem kwX1_init_7 : Cond.fieldLink RX1 20 "CardPort$Capture" "amount" "I" ∈ wsX1_init := List.mem_of_getElem? (i := 7) rfl
theorem kwX1_init_8 : Cond.fieldLink RX1 23 "CardPort$Capture" "fee" "I" ∈ wsX1_init := List.mem_of_getElem? (i := 8) rfl
set_option maxHeartbeats 4000000 in
set_option maxRecDepth 100000 in
theorem c_X1_init (l : Launch) (D : va_G) (kc : Nat → ClassId) (A : Nat → Prop) (e0 : Nat × Nat) (M : Mp) (h0 k p1 v fe : Nat) (x y z u : Int32) (hm : M h0 = some (.inr (2, [.int x, .null, .int y, .int z, .int u]))) : Met l yX1_init wsX1_init ({ frames := 1, cells := 0, slots := 0, locals := 20 }) (mPre D kc A e0 M [.ref h0, .int (nI k), .ref p1, .int (nI v), .int (nI fe)]) (va_Qv (fun M1 => M1 = mu M h0 (.inr (2, [.int (nI k), .ref p1, .int (nI v), .int (nI fe), .int (nI 0)]))) (mB D A) A) 0 0 A := by
  refine Met.ofW (cc := cX1_init) (maxL := 5) (ret := none) (by decide) rfl ?_
  intro p e s m args below meth c s₁ B hml hv
  obtain ⟨rfl, hw, hK, hA, hcx⟩ := hv
  have X : mX p s m _ c cX1_init 5 RX1 wsX1_init D kc := ⟨⟨B.exec, B.bytes, hml, findClass_of_methodNamed B.named, atoms_spec (ws := wsX1_init) B.pre⟩, hK⟩
  have hx := B.exec
  have hb := B.bytes
  have hr := B.returns
  have hlocks := B.notSynchronized
  have hin : meth.name = "<init>" := (name_of_methodNamed B.named B.method).1
  have Y : mY D A M s s.heap [] := ⟨hw, va_S.rf⟩
  have hl := lv_entry ([.ref h0, .int (nI k), .ref p1, .int (nI v), .int (nI fe)]) (n := 5) (Nat.le_of_ble_eq_true rfl)
  rw [lg_entry_eq]
  generalize (lg_sl ([.ref h0, .int (nI k), .ref p1, .int (nI v), .int (nI fe)]) ++ List.replicate (5 - (lg_sl ([.ref h0, .int (nI k), .ref p1, .int (nI v), .int (nI fe)])).length) Slot.unset).toArray = ls at hl ⊢
  have hl : lv_has ls 5 [(0, .ref h0), (1, .int (nI k)), (2, .ref p1), (3, .int (nI v)), (4, .int (nI fe))] := hl
  refine lv_aload_n hx hb dX1_init_0 rfl (lv_at hl 0 rfl) ?_
  refine W.objInit hx hb X.1.2.2.2.1 (X.1.2.2.2.2 _ kwX1_init_1) (X.1.2.2.2.2 _ kwX1_init_2) (X.1.2.2.2.2 _ kwX1_init_3) rfl (by rw [hml]; exact hl.1) rfl dX1_init_1 (Nat.le_of_ble_eq_true rfl) (Nat.le_of_ble_eq_true rfl) ?_
  refine W.eq (g2 := F0 m 4 ls []) rfl ?_
  refine lv_aload_n hx hb dX1_init_4 rfl (lv_at hl 0 rfl) ?_
  refine n_iconst hx hb 0 dX1_init_5 (by decide) ?_
  refine m_put (ref := "CardPort$Capture") (C := RX1) (T := TX1) (N := 5) (ci := 2) X Y htX1_init_wsX101 tyX1 tyX1_ok nmX1 hm rfl 4 (by decide) kwX1_init_4 rfl rfl (v := .int (nI 0)) rfl rfl (Nat.le_of_ble_eq_true rfl) dX1_init_6 (fun H locs Y => ?_)
  obtain ⟨M1, eM1⟩ : ∃ zz9 : Mp, zz9 = mu M h0 (.inr (2, [.int x, .null, .int y, .int z, .int (nI 0)])) := ⟨_, rfl⟩
  have Y : mY D A M1 s H locs := by rw [eM1]; exact Y
  have hh2 : M1 h0 = some (.inr (2, [.int x, .null, .int y, .int z, .int (nI 0)])) := by rw [eM1]; exact mu_self _ _ _
  refine lv_aload_n hx hb dX1_init_9 rfl (lv_at hl 0 rfl) ?_
  refine lv_iload_n hx hb dX1_init_10 rfl (lv_at hl 1 rfl) ?_
  refine m_putF (ref := "CardPort$Capture") (C := RX1) (T := TX1) (N := 5) (ci := 2) X Y htX1_init_wsX101 tyX1 tyX1_ok nmX1 hin hh2 rfl 0 (by decide) kwX1_init_5 rfl rfl rfl (v := .int (nI k)) rfl rfl (Nat.le_of_ble_eq_true rfl) dX1_init_11 (fun H locs Y => ?_)
  obtain ⟨M3, eM3⟩ : ∃ zz9 : Mp, zz9 = mu M1 h0 (.inr (2, [.int (nI k), .null, .int y, .int z, .int (nI 0)])) := ⟨_, rfl⟩
  have Y : mY D A M3 s H locs := by rw [eM3]; exact Y
  have hh4 : M3 h0 = some (.inr (2, [.int (nI k), .null, .int y, .int z, .int (nI 0)])) := by rw [eM3]; exact mu_self _ _ _
  refine lv_aload_n hx hb dX1_init_14 rfl (lv_at hl 0 rfl) ?_
  refine lv_aload_n hx hb dX1_init_15 rfl (lv_at hl 2 rfl) ?_
  refine m_putF (ref := "CardPort$Capture") (C := RX1) (T := TX1) (N := 5) (ci := 2) X Y htX1_init_wsX101 tyX1 tyX1_ok nmX1 hin hh4 rfl 1 (by decide) kwX1_init_6 rfl rfl rfl (v := .ref p1) rfl rfl (Nat.le_of_ble_eq_true rfl) dX1_init_16 (fun H locs Y => ?_)
  obtain ⟨M5, eM5⟩ : ∃ zz9 : Mp, zz9 = mu M3 h0 (.inr (2, [.int (nI k), .ref p1, .int y, .int z, .int (nI 0)])) := ⟨_, rfl⟩
  have Y : mY D A M5 s H locs := by rw [eM5]; exact Y
  have hh6 : M5 h0 = some (.inr (2, [.int (nI k), .ref p1, .int y, .int z, .int (nI 0)])) := by rw [eM5]; exact mu_self _ _ _
  refine lv_aload_n hx hb dX1_init_19 rfl (lv_at hl 0 rfl) ?_
  refine lv_iload_n hx hb dX1_init_20 rfl (lv_at hl 3 rfl) ?_
  refine m_putF (ref := "CardPort$Capture") (C := RX1) (T := TX1) (N := 5) (ci := 2) X Y htX1_init_wsX101 tyX1 tyX1_ok nmX1 hin hh6 rfl 2 (by decide) kwX1_init_7 rfl rfl rfl (v := .int (nI v)) rfl rfl (Nat.le_of_ble_eq_true rfl) dX1_init_21 (fun H locs Y => ?_)
  obtain ⟨M7, eM7⟩ : ∃ zz9 : Mp, zz9 = mu M5 h0 (.inr (2, [.int (nI k), .ref p1, .int (nI v), .int z, .int (nI 0)])) := ⟨_, rfl⟩
  have Y : mY D A M7 s H locs := by rw [eM7]; exact Y
  have hh8 : M7 h0 = some (.inr (2, [.int (nI k), .ref p1, .int (nI v), .int z, .int (nI 0)])) := by rw [eM7]; exact mu_self _ _ _
  refine lv_aload_n hx hb dX1_init_24 rfl (lv_at hl 0 rfl) ?_
  refine lv_iload hx hb dX1_init_25 (lv_at hl 4 rfl) ?_
  refine m_putF (ref := "CardPort$Capture") (C := RX1) (T := TX1) (N := 5) (ci := 2) X Y htX1_init_wsX101 tyX1 tyX1_ok nmX1 hin hh8 rfl 3 (by decide) kwX1_init_8 rfl rfl rfl (v := .int (nI fe)) rfl rfl (Nat.le_of_ble_eq_true rfl) dX1_init_27 (fun H locs Y => ?_)
  obtain ⟨M9, eM9⟩ : ∃ zz9 : Mp, zz9 = mu M7 h0 (.inr (2, [.int (nI k), .ref p1, .int (nI v), .int (nI fe), .int (nI 0)])) := ⟨_, rfl⟩
  have Y : mY D A M9 s H locs := by rw [eM9]; exact Y
  have hh10 : M9 h0 = some (.inr (2, [.int (nI k), .ref p1, .int (nI v), .int (nI fe), .int (nI 0)])) := by rw [eM9]; exact mu_self _ _ _
  refine m_vret X Y hr hlocks (by decide) (by decide) ?_ dX1_init_30
  rw [eM9, eM7, mu_mu, eM5, mu_mu, eM3, mu_mu, eM1, mu_mu]
theorem kwX3_init_1 : Cond.methodLink RX3 3 objectInit ∈ wsX3_init := List.mem_of_getElem? (i := 1) rfl
theorem kwX3_init_2 : Cond.instanceMethod objectInit ∈ wsX3_init := List.mem_of_getElem? (i := 2) rfl
theorem kwX3_init_3 : Cond.code objectInit ⟨#[0xb1]⟩ 1 none ∈ wsX3_init := List.mem_of_getElem? (i := 3) rfl
theorem kwX3_init_4 : Cond.fieldLink RX3 9 "CardPort$Chargeback" "stage" "I" ∈ wsX3_init := List.mem_of_getElem? (i := 4) rfl
theorem htX3_init_wsX301 : ∀ w ∈ wsX30, w ∈ wsX3_init := fun _ h => List.mem_cons_of_mem _ (List.mem_append_right _ h)
theorem kwX3_init_5 : Cond.fieldLink RX3 15 "CardPort$Chargeback" "number" "I" ∈ wsX3_init := List.mem_of_getElem? (i := 5) rfl
theorem kwX3_init_6 : Cond.fieldLink RX3 18 "CardPort$Chargeback" "capture" "LCardPort$Capture;" ∈ wsX3_init := List.mem_of_getElem? (i := 6) rfl
theorem kwX3_init_7 : Cond.fieldLink RX3 22 "CardPort$Chargeback" "amount" "I" ∈ wsX3_init := List.mem_of_getElem? (i := 7) rfl
theorem kwX3_init_8 : Cond.fieldLink RX3 25 "CardPort$Chargeback" "lastDay" "I" ∈ wsX3_init := List.mem_of_getElem? (i := 8) rfl
set_option maxHeartbeats 4000000 in
set_option maxRecDepth 100000 in
theorem c_X3_init (l : Launch) (D : va_G) (kc : Nat → ClassId) (A : Nat → Prop) (e0 : Nat × Nat) (M : Mp) (h0 k c1 v ld : Nat) (x y z u : Int32) (hm : M h0 = some (.inr (4, [.int x, .null, .int y, .int z, .int u]))) : Met l yX3_init wsX3_init ({ frames := 1, cells := 0, slots := 0, locals := 20 }) (mPre D kc A e0 M [.ref h0, .int (nI k), .ref c1, .int (nI v), .int (nI ld)]) (va_Qv (fun M1 => M1 = mu M h0 (.inr (4, [.int (nI k), .ref c1, .int (nI v), .int (nI 0), .int (nI ld)]))) (mB D A) A) 0 0 A := by
  refine Met.ofW (cc := cX3_init) (maxL := 5) (ret := none) (by decide) rfl ?_
  intro p e s m args below meth c s₁ B hml hv
  obtain ⟨rfl, hw, hK, hA, hcx⟩ := hv
  have X : mX p s m _ c cX3_init 5 RX3 wsX3_init D kc := ⟨⟨B.exec, B.bytes, hml, findClass_of_methodNamed B.named, atoms_spec (ws := wsX3_init) B.pre⟩, hK⟩
  have hx := B.exec
  have hb := B.bytes
  have hr := B.returns
  have hlocks := B.notSynchronized
  have hin : meth.name = "<init>" := (name_of_methodNamed B.named B.method).1
  have Y : mY D A M s s.heap [] := ⟨hw, va_S.rf⟩
  have hl := lv_entry ([.ref h0, .int (nI k), .ref c1, .int (nI v), .int (nI ld)]) (n := 5) (Nat.le_of_ble_eq_true rfl)
  rw [lg_entry_eq]
  generalize (lg_sl ([.ref h0, .int (nI k), .ref c1, .int (nI v), .int (nI ld)]) ++ List.replicate (5 - (lg_sl ([.ref h0, .int (nI k), .ref c1, .int (nI v), .int (nI ld)])).length) Slot.unset).toArray = ls at hl ⊢
  have hl : lv_has ls 5 [(0, .ref h0), (1, .int (nI k)), (2, .ref c1), (3, .int (nI v)), (4, .int (nI ld))] := hl
  refine lv_aload_n hx hb dX3_init_0 rfl (lv_at hl 0 rfl) ?_
  refine W.objInit hx hb X.1.2.2.2.1 (X.1.2.2.2.2 _ kwX3_init_1) (X.1.2.2.2.2 _ kwX3_init_2) (X.1.2.2.2.2 _ kwX3_init_3) rfl (by rw [hml]; exact hl.1) rfl dX3_init_1 (Nat.le_of_ble_eq_true rfl) (Nat.le_of_ble_eq_true rfl) ?_
  refine W.eq (g2 := F0 m 4 ls []) rfl ?_
  refine lv_aload_n hx hb dX3_init_4 rfl (lv_at hl 0 rfl) ?_
  refine n_iconst hx hb 0 dX3_init_5 (by decide) ?_
  refine m_put (ref := "CardPort$Chargeback") (C := RX3) (T := TX3) (N := 5) (ci := 4) X Y htX3_init_wsX301 tyX3 tyX3_ok nmX3 hm rfl 3 (by decide) kwX3_init_4 rfl rfl (v := .int (nI 0)) rfl rfl (Nat.le_of_ble_eq_true rfl) dX3_init_6 (fun H locs Y => ?_)
  obtain ⟨M1, eM1⟩ : ∃ zz9 : Mp, zz9 = mu M h0 (.inr (4, [.int x, .null, .int y, .int (nI 0), .int u])) := ⟨_, rfl⟩
  have Y : mY D A M1 s H locs := by rw [eM1]; exact Y
  have hh2 : M1 h0 = some (.inr (4, [.int x, .null, .int y, .int (nI 0), .int u])) := by rw [eM1]; exact mu_self _ _ _
  refine lv_aload_n hx hb dX3_init_9 rfl (lv_at hl 0 rfl) ?_
  refine lv_iload_n hx hb dX3_init_10 rfl (lv_at hl 1 rfl) ?_
  refine m_putF (ref := "CardPort$Chargeback") (C := RX3) (T := TX3) (N := 5) (ci := 4) X Y htX3_init_wsX301 tyX3 tyX3_ok nmX3 hin hh2 rfl 0 (by decide) kwX3_init_5 rfl rfl rfl (v := .int (nI k)) rfl rfl (Nat.le_of_ble_eq_true rfl) dX3_init_11 (fun H locs Y => ?_)
  obtain ⟨M3, eM3⟩ : ∃ zz9 : Mp, zz9 = mu M1 h0 (.inr (4, [.int (nI k), .null, .int y, .int (nI 0), .int u])) := ⟨_, rfl⟩
  have Y : mY D A M3 s H locs := by rw [eM3]; exact Y
  have hh4 : M3 h0 = some (.inr (4, [.int (nI k), .null, .int y, .int (nI 0), .int u])) := by rw [eM3]; exact mu_self _ _ _
  refine lv_aload_n hx hb dX3_init_14 rfl (lv_at hl 0 rfl) ?_
  refine lv_aload_n hx hb dX3_init_15 rfl (lv_at hl 2 rfl) ?_
  refine m_putF (ref := "CardPort$Chargeback") (C := RX3) (T := TX3) (N := 5) (ci := 4) X Y htX3_init_wsX301 tyX3 tyX3_ok nmX3 hin hh4 rfl 1 (by decide) kwX3_init_6 rfl rfl rfl (v := .ref c1) rfl rfl (Nat.le_of_ble_eq_true rfl) dX3_init_16 (fun H locs Y => ?_)
  obtain ⟨M5, eM5⟩ : ∃ zz9 : Mp, zz9 = mu M3 h0 (.inr (4, [.int (nI k), .ref c1, .int y, .int (nI 0), .int u])) := ⟨_, rfl⟩
  have Y : mY D A M5 s H locs := by rw [eM5]; exact Y
  have hh6 : M5 h0 = some (.inr (4, [.int (nI k), .ref c1, .int y, .int (nI 0), .int u])) := by rw [eM5]; exact mu_self _ _ _
  refine lv_aload_n hx hb dX3_init_19 rfl (lv_at hl 0 rfl) ?_
  refine lv_iload_n hx hb dX3_init_20 rfl (lv_at hl 3 rfl) ?_
  refine m_putF (ref := "CardPort$Chargeback") (C := RX3) (T := TX3) (N := 5) (ci := 4) X Y htX3_init_wsX301 tyX3 tyX3_ok nmX3 hin hh6 rfl 2 (by decide) kwX3_init_7 rfl rfl rfl (v := .int (nI v)) rfl rfl (Nat.le_of_ble_eq_true rfl) dX3_init_21 (fun H locs Y => ?_)
  obtain ⟨M7, eM7⟩ : ∃ zz9 : Mp, zz9 = mu M5 h0 (.inr (4, [.int (nI k), .ref c1, .int (nI v), .int (nI 0), .int u])) := ⟨_, rfl⟩
  have Y : mY D A M7 s H locs := by rw [eM7]; exact Y
  have hh8 : M7 h0 = some (.inr (4, [.int (nI k), .ref c1, .int (nI v), .int (nI 0), .int u])) := by rw [eM7]; exact mu_self _ _ _
  refine lv_aload_n hx hb dX3_init_24 rfl (lv_at hl 0 rfl) ?_
  refine lv_iload hx hb dX3_init_25 (lv_at hl 4 rfl) ?_
  refine m_put (ref := "CardPort$Chargeback") (C := RX3) (T := TX3) (N := 5) (ci := 4) X Y htX3_init_wsX301 tyX3 tyX3_ok nmX3 hh8 rfl 4 (by decide) kwX3_init_8 rfl rfl (v := .int (nI ld)) rfl rfl (Nat.le_of_ble_eq_true rfl) dX3_init_27 (fun H locs Y => ?_)
  obtain ⟨M9, eM9⟩ : ∃ zz9 : Mp, zz9 = mu M7 h0 (.inr (4, [.int (nI k), .ref c1, .int (nI v), .int (nI 0), .int (nI ld)])) := ⟨_, rfl⟩
  have Y : mY D A M9 s H locs := by rw [eM9]; exact Y
  have hh10 : M9 h0 = some (.inr (4, [.int (nI k), .ref c1, .int (nI v), .int (nI 0), .int (nI ld)])) := by rw [eM9]; exact mu_self _ _ _
  refine m_vret X Y hr hlocks (by decide) (by decide) ?_ dX3_init_30
  rw [eM9, eM7, mu_mu, eM5, mu_mu, eM3, mu_mu, eM1, mu_mu]
theorem kwX0_book_1 : Cond.fieldLink RX0 7 "CardPort$Bank" "netInAll" "J" ∈ wsX0_book := List.mem_of_getElem? (i := 1) rfl
theorem htX0_book_wsX001 : ∀ w ∈ wsX00, w ∈ wsX0_book := fun _ h => List.mem_cons_of_mem _ (List.mem_append_right _ h)
theorem kwX0_book_2 : Cond.fieldLink RX0 13 "CardPort$Bank" "netToday" "J" ∈ wsX0_book := List.mem_of_getElem? (i := 2) rfl
set_option maxHeartbeats 4000000 in
set_option maxRecDepth 100000 in
theorem c_X0_book (l : Launch) (D : va_G) (kc : Nat → ClassId) (A : Nat → Prop) (e0 : Nat × Nat) (M : Mp) (h0 : Nat) (x y : Int64) (v : Int32) (hm : M h0 = some (.inr (1, [.long x, .long y]))) : Met l yX0_book wsX0_book ({ frames := 0, cells := 0, slots := 0, locals := 0 }) (mPre D kc A e0 M [.ref h0, .int v]) (va_Qv (fun M1 => M1 = mu M h0 (.inr (1, [.long (x + v.toInt64), .long (y + v.toInt64)]))) (mB D A) A) 0 0 A := by
  refine Met.ofW (cc := cX0_book) (maxL := 2) (ret := none) (by decide) rfl ?_
  intro p e s m args below meth c s₁ B hml hv
  obtain ⟨rfl, hw, hK, hA, hcx⟩ := hv
  have X : mX p s m _ c cX0_book 2 RX0 wsX0_book D kc := ⟨⟨B.exec, B.bytes, hml, findClass_of_methodNamed B.named, atoms_spec (ws := wsX0_book) B.pre⟩, hK⟩
  have hx := B.exec
  have hb := B.bytes
  have hr := B.returns
  have hlocks := B.notSynchronized
  have Y : mY D A M s s.heap [] := ⟨hw, va_S.rf⟩
  have hl := lv_entry ([.ref h0, .int v]) (n := 2) (Nat.le_of_ble_eq_true rfl)
  rw [lg_entry_eq]
  generalize (lg_sl ([.ref h0, .int v]) ++ List.replicate (2 - (lg_sl ([.ref h0, .int v])).length) Slot.unset).toArray = ls at hl ⊢
  have hl : lv_has ls 2 [(0, .ref h0), (1, .int v)] := hl
  refine lv_aload_n hx hb dX0_book_0 rfl (lv_at hl 0 rfl) ?_
  refine lv_dup hx hb dX0_book_1 rfl ?_
  refine m_get (ref := "CardPort$Bank") (C := RX0) (T := TX0) (N := 2) (ci := 1) X Y htX0_book_wsX001 hm rfl 0 (by decide) kwX0_book_1 rfl (v := .long x) rfl dX0_book_2 ?_
  refine lv_iload_n hx hb dX0_book_5 rfl (lv_at hl 1 rfl) ?_
  refine lv_i2l hx hb dX0_book_6 rfl ?_
  refine lv_ladd hx hb dX0_book_7 ?_
  refine m_put (ref := "CardPort$Bank") (C := RX0) (T := TX0) (N := 2) (ci := 1) X Y htX0_book_wsX001 tyX0 tyX0_ok nmX0 hm rfl 0 (by decide) kwX0_book_1 rfl rfl (v := .long (x + v.toInt64)) rfl rfl (Nat.le_of_ble_eq_true rfl) dX0_book_8 (fun H locs Y => ?_)
  obtain ⟨M1, eM1⟩ : ∃ zz9 : Mp, zz9 = mu M h0 (.inr (1, [.long (x + v.toInt64), .long y])) := ⟨_, rfl⟩
  have Y : mY D A M1 s H locs := by rw [eM1]; exact Y
  have hh2 : M1 h0 = some (.inr (1, [.long (x + v.toInt64), .long y])) := by rw [eM1]; exact mu_self _ _ _
  refine lv_aload_n hx hb dX0_book_11 rfl (lv_at hl 0 rfl) ?_
  refine lv_dup hx hb dX0_book_12 rfl ?_
  refine m_get (ref := "CardPort$Bank") (C := RX0) (T := TX0) (N := 2) (ci := 1) X Y htX0_book_wsX001 hh2 rfl 1 (by decide) kwX0_book_2 rfl (v := .long y) rfl dX0_book_13 ?_
  refine lv_iload_n hx hb dX0_book_16 rfl (lv_at hl 1 rfl) ?_
  refine lv_i2l hx hb dX0_book_17 rfl ?_
  refine lv_ladd hx hb dX0_book_18 ?_
  refine m_put (ref := "CardPort$Bank") (C := RX0) (T := TX0) (N := 2) (ci := 1) X Y htX0_book_wsX001 tyX0 tyX0_ok nmX0 hh2 rfl 1 (by decide) kwX0_book_2 rfl rfl (v := .long (y + v.toInt64)) rfl rfl (Nat.le_of_ble_eq_true rfl) dX0_book_19 (fun H locs Y => ?_)
  obtain ⟨M3, eM3⟩ : ∃ zz9 : Mp, zz9 = mu M1 h0 (.inr (1, [.long (x + v.toInt64), .long (y + v.toInt64)])) := ⟨_, rfl⟩
  have Y : mY D A M3 s H locs := by rw [eM3]; exact Y
  have hh4 : M3 h0 = some (.inr (1, [.long (x + v.toInt64), .long (y + v.toInt64)])) := by rw [eM3]; exact mu_self _ _ _
  refine m_vret X Y hr hlocks (by decide) (by decide) ?_ dX0_book_22
  rw [eM3, eM1, mu_mu]
set_option maxHeartbeats 4000000 in
set_option maxRecDepth 100000 in
theorem c_X0_pay (l : Launch) (D : va_G) (kc : Nat → ClassId) (A : Nat → Prop) (e0 : Nat × Nat) (M : Mp) (h0 h1 : Nat) (x y x2 y2 : Int64) (v : Int32) (hm : M h0 = some (.inr (1, [.long x, .long y]))) (hm2 : M h1 = some (.inr (1, [.long x2, .long y2]))) : Met l yX0_pay wsX0_pay ({ frames := 1, cells := 0, slots := 0, locals := 21 }) (mPre D kc A e0 M [.ref h0, .ref h1, .int v]) (va_Qv (fun M1 => M1 = mu (mu M h0 (.inr (1, [.long (x + (-v).toInt64), .long (y + (-v).toInt64)]))) h1 (if h1 = h0 then .inr (1, [.long (x + (-v).toInt64 + v.toInt64), .long (y + (-v).toInt64 + v.toInt64)]) else .inr (1, [.long (x2 + v.toInt64), .long (y2 + v.toInt64)]))) (mB D A) A) 0 0 A := by
  refine Met.ofW (cc := cX0_pay) (maxL := 3) (ret := none) (by decide) rfl ?_
  intro p e s m args below meth c s₁ B hml hv
  obtain ⟨rfl, hw, hK, hA, hcx⟩ := hv
  have X : mX p s m _ c cX0_pay 3 RX0 wsX0_pay D kc := ⟨⟨B.exec, B.bytes, hml, findClass_of_methodNamed B.named, atoms_spec (ws := wsX0_pay) B.pre⟩, hK⟩
  have hx := B.exec
  have hb := B.bytes
  have hr := B.returns
  have hlocks := B.notSynchronized
  have Y : mY D A M s s.heap [] := ⟨hw, va_S.rf⟩
  have hl := lv_entry ([.ref h0, .ref h1, .int v]) (n := 3) (Nat.le_of_ble_eq_true rfl)
  rw [lg_entry_eq]
  generalize (lg_sl ([.ref h0, .ref h1, .int v]) ++ List.replicate (3 - (lg_sl ([.ref h0, .ref h1, .int v])).length) Slot.unset).toArray = ls at hl ⊢
  have hl : lv_has ls 3 [(0, .ref h0), (1, .ref h1), (2, .int v)] := hl
  refine lv_aload_n hx hb dX0_pay_0 rfl (lv_at hl 0 rfl) ?_
  refine lv_iload_n hx hb dX0_pay_1 rfl (lv_at hl 2 rfl) ?_
  refine lv_ineg hx hb dX0_pay_2 ?_
  refine m_Vv (As := [.int (-v)]) (rest := []) X Y hA hcx (c_X0_book l D kc A e0 M h0 x y (-v) hm) (cwV 1 X.1.2.2.2.2 gX0_pay_X0_book rfl rfl rfl (by decide +kernel) ⟨Nat.le_of_ble_eq_true rfl, Nat.le_of_ble_eq_true rfl⟩) hm rfl rfl rfl hl.1 (Nat.le_of_ble_eq_true rfl) dX0_pay_3 ⟨by decide, by decide⟩ (fun M1 H locs p2 Y => ?_)
  by_cases hab : h1 = h0
  · subst hab
    have hm9 : M1 h1 = some (.inr (1, [.long (x + (-v).toInt64), .long (y + (-v).toInt64)])) := by rw [p2]; exact mu_self _ _ _
    refine lv_aload_n hx hb dX0_pay_6 rfl (lv_at hl 1 rfl) ?_
    refine lv_iload_n hx hb dX0_pay_7 rfl (lv_at hl 2 rfl) ?_
    refine m_Vv (As := [.int v]) (rest := []) X Y hA hcx (c_X0_book l D kc A e0 M1 h1 (x + (-v).toInt64) (y + (-v).toInt64) v hm9) (cwV 1 X.1.2.2.2.2 gX0_pay_X0_book rfl rfl rfl (by decide +kernel) ⟨Nat.le_of_ble_eq_true rfl, Nat.le_of_ble_eq_true rfl⟩) hm9 rfl rfl rfl hl.1 (Nat.le_of_ble_eq_true rfl) dX0_pay_8 ⟨by decide, by decide⟩ (fun M3 H locs p4 Y => ?_)
    refine m_vret X Y hr hlocks (by decide) (by decide) ?_ dX0_pay_11
    rw [p4, p2]
    simp
  · have hm9 : M1 h1 = some (.inr (1, [.long x2, .long y2])) := by rw [p2, mu_ne _ _ hab]; exact hm2
    refine lv_aload_n hx hb dX0_pay_6 rfl (lv_at hl 1 rfl) ?_
    refine lv_iload_n hx hb dX0_pay_7 rfl (lv_at hl 2 rfl) ?_
    refine m_Vv (As := [.int v]) (rest := []) X Y hA hcx (c_X0_book l D kc A e0 M1 h1 (x2) (y2) v hm9) (cwV 1 X.1.2.2.2.2 gX0_pay_X0_book rfl rfl rfl (by decide +kernel) ⟨Nat.le_of_ble_eq_true rfl, Nat.le_of_ble_eq_true rfl⟩) hm9 rfl rfl rfl hl.1 (Nat.le_of_ble_eq_true rfl) dX0_pay_8 ⟨by decide, by decide⟩ (fun M5 H locs p6 Y => ?_)
    refine m_vret X Y hr hlocks (by decide) (by decide) ?_ dX0_pay_11
    rw [p6, p2]
    simp [hab]
