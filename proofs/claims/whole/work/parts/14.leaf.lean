def bN (c : Prop) [Decidable c] : Int32 := if c then nI 1 else nI 0
theorem bN_t {c : Prop} [Decidable c] (h : c) : bN c = nI 1 := if_pos h
theorem bN_f {c : Prop} [Decidable c] (h : ¬ c) : bN c = nI 0 := if_neg h
theorem ne_fresh {M : Mp} {a q : Nat} {e : va_E} (hm : M a = some e) (hq : M q = none) : a ≠ q := fun z => by rw [z, hq] at hm; cases hm
def feeN (cp rt v : Nat) : Nat := if v * rt / 1000 < cp then v * rt / 1000 else cp
theorem kwX5_left_1 : Cond.fieldLink RX5 28 "CardPort$Payment" "amount" "I" ∈ wsX5_left := List.mem_of_getElem? (i := 1) rfl
theorem htX5_left_wsX501 : ∀ w ∈ wsX50, w ∈ wsX5_left := fun _ h => List.mem_cons_of_mem _ (List.mem_append_right _ h)
theorem kwX5_left_2 : Cond.fieldLink RX5 7 "CardPort$Payment" "captured" "I" ∈ wsX5_left := List.mem_of_getElem? (i := 2) rfl
set_option maxHeartbeats 4000000 in
set_option maxRecDepth 100000 in
theorem c_X5_left (l : Launch) (D : va_G) (kc : Nat → ClassId) (A : Nat → Prop) (e0 : Nat) (M : Mp) (h0 cd sh pa ld pk pv : Nat) (nb : Int32) (hm : M h0 = some (.inr (6, [.int nb, .ref cd, .ref sh, .int (nI pa), .int (nI ld), .int (nI pk), .int (nI pv)]))) (hle : pk ≤ pa) : Met l yX5_left wsX5_left ({ frames := 0, cells := 0, slots := 0, locals := 0 }) (mPre D kc A e0 M [.ref h0]) (va_Qi (fun r M1 => r = nI (pa - pk) ∧ M1 = M) (mB D A) A) 0 0 A := by
  refine Met.ofW (cc := cX5_left) (maxL := 1) (ret := (some .int)) (by decide) rfl ?_
  intro p e s m args below meth c s₁ B hml hv
  obtain ⟨rfl, hw, hK, hA, hcx⟩ := hv
  have X : mX p s m _ c cX5_left 1 RX5 wsX5_left D kc := ⟨⟨B.exec, B.bytes, hml, findClass_of_methodNamed B.named, atoms_spec (ws := wsX5_left) B.pre⟩, hK⟩
  have hx := B.exec
  have hb := B.bytes
  have hr := B.returns
  have hlocks := B.notSynchronized
  have Y : mY D A M s s.heap [] := ⟨hw, va_S.rf⟩
  have hl := lv_entry ([.ref h0]) (n := 1) (Nat.le_of_ble_eq_true rfl)
  rw [lg_entry_eq]
  generalize (lg_sl ([.ref h0]) ++ List.replicate (1 - (lg_sl ([.ref h0])).length) Slot.unset).toArray = ls at hl ⊢
  have hl : lv_has ls 1 [(0, .ref h0)] := hl
  refine lv_aload_n hx hb dX5_left_0 rfl (lv_at hl 0 rfl) ?_
  refine m_get (ref := "CardPort$Payment") (C := RX5) (T := TX5) (N := 7) (ci := 6) X Y htX5_left_wsX501 hm rfl 3 (by decide) kwX5_left_1 rfl (v := .int (nI pa)) rfl dX5_left_1 ?_
  refine lv_aload_n hx hb dX5_left_4 rfl (lv_at hl 0 rfl) ?_
  refine m_get (ref := "CardPort$Payment") (C := RX5) (T := TX5) (N := 7) (ci := 6) X Y htX5_left_wsX501 hm rfl 5 (by decide) kwX5_left_2 rfl (v := .int (nI pk)) rfl dX5_left_5 ?_
  refine n_isub hx hb (by omega) dX5_left_8 ?_
  refine m_iret X Y hr hlocks (by decide) (by decide) ?_ dX5_left_9
  exact ⟨rfl, rfl⟩
theorem kwX5_isAlive_1 : Cond.fieldLink RX5 13 "CardPort$Payment" "isVoid" "Z" ∈ wsX5_isAlive := List.mem_of_getElem? (i := 1) rfl
theorem htX5_isAlive_wsX501 : ∀ w ∈ wsX50, w ∈ wsX5_isAlive := fun _ h => List.mem_cons_of_mem _ (List.mem_append_right _ h)
theorem kwX5_isAlive_2 : Cond.fieldLink RX5 31 "CardPort$Payment" "lastDay" "I" ∈ wsX5_isAlive := List.mem_of_getElem? (i := 2) rfl
set_option maxHeartbeats 4000000 in
set_option maxRecDepth 100000 in
theorem c_X5_isAlive (l : Launch) (D : va_G) (kc : Nat → ClassId) (A : Nat → Prop) (e0 : Nat) (M : Mp) (h0 cd sh pa ld pk pv : Nat) (nb : Int32) (td : Nat) (hm : M h0 = some (.inr (6, [.int nb, .ref cd, .ref sh, .int (nI pa), .int (nI ld), .int (nI pk), .int (nI pv)]))) (h1 : pv ≤ 1) (h2 : td < 2147483648) (h3 : ld < 2147483648) : Met l yX5_isAlive wsX5_isAlive ({ frames := 0, cells := 0, slots := 0, locals := 0 }) (mPre D kc A e0 M [.ref h0, .int (nI td)]) (va_Qi (fun r M1 => r = bN (pv = 0 ∧ td ≤ ld) ∧ M1 = M) (mB D A) A) 0 0 A := by
  refine Met.ofW (cc := cX5_isAlive) (maxL := 2) (ret := (some .boolean)) (by decide) rfl ?_
  intro p e s m args below meth c s₁ B hml hv
  obtain ⟨rfl, hw, hK, hA, hcx⟩ := hv
  have X : mX p s m _ c cX5_isAlive 2 RX5 wsX5_isAlive D kc := ⟨⟨B.exec, B.bytes, hml, findClass_of_methodNamed B.named, atoms_spec (ws := wsX5_isAlive) B.pre⟩, hK⟩
  have hx := B.exec
  have hb := B.bytes
  have hr := B.returns
  have hlocks := B.notSynchronized
  have Y : mY D A M s s.heap [] := ⟨hw, va_S.rf⟩
  have hl := lv_entry ([.ref h0, .int (nI td)]) (n := 2) (Nat.le_of_ble_eq_true rfl)
  rw [lg_entry_eq]
  generalize (lg_sl ([.ref h0, .int (nI td)]) ++ List.replicate (2 - (lg_sl ([.ref h0, .int (nI td)])).length) Slot.unset).toArray = ls at hl ⊢
  have hl : lv_has ls 2 [(0, .ref h0), (1, .int (nI td))] := hl
  refine lv_aload_n hx hb dX5_isAlive_0 rfl (lv_at hl 0 rfl) ?_
  refine m_get (ref := "CardPort$Payment") (C := RX5) (T := TX5) (N := 7) (ci := 6) X Y htX5_isAlive_wsX501 hm rfl 6 (by decide) kwX5_isAlive_1 rfl (v := .int (nI pv)) rfl dX5_isAlive_1 ?_
  refine n_if_ne hx hb 19 (by omega) dX5_isAlive_4 (by decide) (fun c4 => ?_) (fun c4 => ?_)
  · refine n_iconst hx hb 0 dX5_isAlive_19 (by decide) ?_
    refine m_zret X Y hr hlocks (by decide) (by decide) (by rfl) ?_ dX5_isAlive_20
    exact ⟨(bN_f (by omega)).symm, rfl⟩
  · refine lv_iload_n hx hb dX5_isAlive_7 rfl (lv_at hl 1 rfl) ?_
    refine lv_aload_n hx hb dX5_isAlive_8 rfl (lv_at hl 0 rfl) ?_
    refine m_get (ref := "CardPort$Payment") (C := RX5) (T := TX5) (N := 7) (ci := 6) X Y htX5_isAlive_wsX501 hm rfl 4 (by decide) kwX5_isAlive_2 rfl (v := .int (nI ld)) rfl dX5_isAlive_9 ?_
    refine n_icmp_gt hx hb 19 (by omega) (by omega) dX5_isAlive_12 (by decide) (fun c12 => ?_) (fun c12 => ?_)
    · refine n_iconst hx hb 0 dX5_isAlive_19 (by decide) ?_
      refine m_zret X Y hr hlocks (by decide) (by decide) (by rfl) ?_ dX5_isAlive_20
      exact ⟨(bN_f (by omega)).symm, rfl⟩
    · refine n_iconst hx hb 1 dX5_isAlive_15 (by decide) ?_
      refine lv_goto (tgt := 20) hx hb dX5_isAlive_16 (by decide) ?_
      refine m_zret X Y hr hlocks (by decide) (by decide) (by rfl) ?_ dX5_isAlive_20
      exact ⟨(bN_t (by omega)).symm, rfl⟩
theorem kwX3_hasDeadline_1 : Cond.fieldLink RX3 9 "CardPort$Chargeback" "stage" "I" ∈ wsX3_hasDeadline := List.mem_of_getElem? (i := 1) rfl
theorem htX3_hasDeadline_wsX301 : ∀ w ∈ wsX30, w ∈ wsX3_hasDeadline := fun _ h => List.mem_cons_of_mem _ (List.mem_append_right _ h)
set_option maxHeartbeats 4000000 in
set_option maxRecDepth 100000 in
theorem c_X3_hasDeadline (l : Launch) (D : va_G) (kc : Nat → ClassId) (A : Nat → Prop) (e0 : Nat) (M : Mp) (h0 cq am st : Nat) (nb la : Int32) (hm : M h0 = some (.inr (4, [.int nb, .ref cq, .int (nI am), .int (nI st), .int la]))) (h1 : st ≤ 4) : Met l yX3_hasDeadline wsX3_hasDeadline ({ frames := 0, cells := 0, slots := 0, locals := 0 }) (mPre D kc A e0 M [.ref h0]) (va_Qi (fun r M1 => r = bN (st ≤ 1) ∧ M1 = M) (mB D A) A) 0 0 A := by
  refine Met.ofW (cc := cX3_hasDeadline) (maxL := 1) (ret := (some .boolean)) (by decide) rfl ?_
  intro p e s m args below meth c s₁ B hml hv
  obtain ⟨rfl, hw, hK, hA, hcx⟩ := hv
  have X : mX p s m _ c cX3_hasDeadline 1 RX3 wsX3_hasDeadline D kc := ⟨⟨B.exec, B.bytes, hml, findClass_of_methodNamed B.named, atoms_spec (ws := wsX3_hasDeadline) B.pre⟩, hK⟩
  have hx := B.exec
  have hb := B.bytes
  have hr := B.returns
  have hlocks := B.notSynchronized
  have Y : mY D A M s s.heap [] := ⟨hw, va_S.rf⟩
  have hl := lv_entry ([.ref h0]) (n := 1) (Nat.le_of_ble_eq_true rfl)
  rw [lg_entry_eq]
  generalize (lg_sl ([.ref h0]) ++ List.replicate (1 - (lg_sl ([.ref h0])).length) Slot.unset).toArray = ls at hl ⊢
  have hl : lv_has ls 1 [(0, .ref h0)] := hl
  refine lv_aload_n hx hb dX3_hasDeadline_0 rfl (lv_at hl 0 rfl) ?_
  refine m_get (ref := "CardPort$Chargeback") (C := RX3) (T := TX3) (N := 5) (ci := 4) X Y htX3_hasDeadline_wsX301 hm rfl 3 (by decide) kwX3_hasDeadline_1 rfl (v := .int (nI st)) rfl dX3_hasDeadline_1 ?_
  refine n_if_eq hx hb 15 (by omega) dX3_hasDeadline_4 (by decide) (fun c4 => ?_) (fun c4 => ?_)
  · refine n_iconst hx hb 1 dX3_hasDeadline_15 (by decide) ?_
    refine lv_goto (tgt := 20) hx hb dX3_hasDeadline_16 (by decide) ?_
    refine m_zret X Y hr hlocks (by decide) (by decide) (by rfl) ?_ dX3_hasDeadline_20
    exact ⟨(bN_t (by omega)).symm, rfl⟩
  · refine lv_aload_n hx hb dX3_hasDeadline_7 rfl (lv_at hl 0 rfl) ?_
    refine m_get (ref := "CardPort$Chargeback") (C := RX3) (T := TX3) (N := 5) (ci := 4) X Y htX3_hasDeadline_wsX301 hm rfl 3 (by decide) kwX3_hasDeadline_1 rfl (v := .int (nI st)) rfl dX3_hasDeadline_8 ?_
    refine n_iconst hx hb 1 dX3_hasDeadline_11 (by decide) ?_
    refine n_icmp_ne hx hb 19 (by omega) (by omega) dX3_hasDeadline_12 (by decide) (fun c12 => ?_) (fun c12 => ?_)
    · refine n_iconst hx hb 0 dX3_hasDeadline_19 (by decide) ?_
      refine m_zret X Y hr hlocks (by decide) (by decide) (by rfl) ?_ dX3_hasDeadline_20
      exact ⟨(bN_f (by omega)).symm, rfl⟩
    · refine n_iconst hx hb 1 dX3_hasDeadline_15 (by decide) ?_
      refine lv_goto (tgt := 20) hx hb dX3_hasDeadline_16 (by decide) ?_
      refine m_zret X Y hr hlocks (by decide) (by decide) (by rfl) ?_ dX3_hasDeadline_20
      exact ⟨(bN_t (by omega)).symm, rfl⟩
theorem kwX3_isWithCard_1 : Cond.fieldLink RX3 9 "CardPort$Chargeback" "stage" "I" ∈ wsX3_isWithCard := List.mem_of_getElem? (i := 1) rfl
theorem htX3_isWithCard_wsX301 : ∀ w ∈ wsX30, w ∈ wsX3_isWithCard := fun _ h => List.mem_cons_of_mem _ (List.mem_append_right _ h)
set_option maxHeartbeats 4000000 in
set_option maxRecDepth 100000 in
theorem c_X3_isWithCard (l : Launch) (D : va_G) (kc : Nat → ClassId) (A : Nat → Prop) (e0 : Nat) (M : Mp) (h0 cq am st : Nat) (nb la : Int32) (hm : M h0 = some (.inr (4, [.int nb, .ref cq, .int (nI am), .int (nI st), .int la]))) (h1 : st ≤ 4) : Met l yX3_isWithCard wsX3_isWithCard ({ frames := 0, cells := 0, slots := 0, locals := 0 }) (mPre D kc A e0 M [.ref h0]) (va_Qi (fun r M1 => r = bN (st = 0 ∨ st = 2 ∨ st = 3) ∧ M1 = M) (mB D A) A) 0 0 A := by
  refine Met.ofW (cc := cX3_isWithCard) (maxL := 1) (ret := (some .boolean)) (by decide) rfl ?_
  intro p e s m args below meth c s₁ B hml hv
  obtain ⟨rfl, hw, hK, hA, hcx⟩ := hv
  have X : mX p s m _ c cX3_isWithCard 1 RX3 wsX3_isWithCard D kc := ⟨⟨B.exec, B.bytes, hml, findClass_of_methodNamed B.named, atoms_spec (ws := wsX3_isWithCard) B.pre⟩, hK⟩
  have hx := B.exec
  have hb := B.bytes
  have hr := B.returns
  have hlocks := B.notSynchronized
  have Y : mY D A M s s.heap [] := ⟨hw, va_S.rf⟩
  have hl := lv_entry ([.ref h0]) (n := 1) (Nat.le_of_ble_eq_true rfl)
  rw [lg_entry_eq]
  generalize (lg_sl ([.ref h0]) ++ List.replicate (1 - (lg_sl ([.ref h0])).length) Slot.unset).toArray = ls at hl ⊢
  have hl : lv_has ls 1 [(0, .ref h0)] := hl
  refine lv_aload_n hx hb dX3_isWithCard_0 rfl (lv_at hl 0 rfl) ?_
  refine m_get (ref := "CardPort$Chargeback") (C := RX3) (T := TX3) (N := 5) (ci := 4) X Y htX3_isWithCard_wsX301 hm rfl 3 (by decide) kwX3_isWithCard_1 rfl (v := .int (nI st)) rfl dX3_isWithCard_1 ?_
  refine n_if_eq hx hb 23 (by omega) dX3_isWithCard_4 (by decide) (fun c4 => ?_) (fun c4 => ?_)
  · refine n_iconst hx hb 1 dX3_isWithCard_23 (by decide) ?_
    refine lv_goto (tgt := 28) hx hb dX3_isWithCard_24 (by decide) ?_
    refine m_zret X Y hr hlocks (by decide) (by decide) (by rfl) ?_ dX3_isWithCard_28
    exact ⟨(bN_t (by omega)).symm, rfl⟩
  · refine lv_aload_n hx hb dX3_isWithCard_7 rfl (lv_at hl 0 rfl) ?_
    refine m_get (ref := "CardPort$Chargeback") (C := RX3) (T := TX3) (N := 5) (ci := 4) X Y htX3_isWithCard_wsX301 hm rfl 3 (by decide) kwX3_isWithCard_1 rfl (v := .int (nI st)) rfl dX3_isWithCard_8 ?_
    refine n_iconst hx hb 2 dX3_isWithCard_11 (by decide) ?_
    refine n_icmp_eq hx hb 23 (by omega) (by omega) dX3_isWithCard_12 (by decide) (fun c12 => ?_) (fun c12 => ?_)
    · refine n_iconst hx hb 1 dX3_isWithCard_23 (by decide) ?_
      refine lv_goto (tgt := 28) hx hb dX3_isWithCard_24 (by decide) ?_
      refine m_zret X Y hr hlocks (by decide) (by decide) (by rfl) ?_ dX3_isWithCard_28
      exact ⟨(bN_t (by omega)).symm, rfl⟩
    · refine lv_aload_n hx hb dX3_isWithCard_15 rfl (lv_at hl 0 rfl) ?_
      refine m_get (ref := "CardPort$Chargeback") (C := RX3) (T := TX3) (N := 5) (ci := 4) X Y htX3_isWithCard_wsX301 hm rfl 3 (by decide) kwX3_isWithCard_1 rfl (v := .int (nI st)) rfl dX3_isWithCard_16 ?_
      refine n_iconst hx hb 3 dX3_isWithCard_19 (by decide) ?_
      refine n_icmp_ne hx hb 27 (by omega) (by omega) dX3_isWithCard_20 (by decide) (fun c20 => ?_) (fun c20 => ?_)
      · refine n_iconst hx hb 0 dX3_isWithCard_27 (by decide) ?_
        refine m_zret X Y hr hlocks (by decide) (by decide) (by rfl) ?_ dX3_isWithCard_28
        exact ⟨(bN_f (by omega)).symm, rfl⟩
      · refine n_iconst hx hb 1 dX3_isWithCard_23 (by decide) ?_
        refine lv_goto (tgt := 28) hx hb dX3_isWithCard_24 (by decide) ?_
        refine m_zret X Y hr hlocks (by decide) (by decide) (by rfl) ?_ dX3_isWithCard_28
        exact ⟨(bN_t (by omega)).symm, rfl⟩
