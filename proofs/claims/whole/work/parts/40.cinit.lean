theorem KP.put {M M1 : Mp} {h0 : Nat} {c : va_E} (h : KP M M1 h0) : KP M (mu M1 h0 c) h0 := fun x e hx hn => by rw [mu_ne _ _ hn]; exact h x e hx hn
theorem KP.new {M M1 : Mp} {h0 q : Nat} {c : va_E} (h : KP M M1 h0) (hq : M1 q = none) : KP M (mu M1 q c) h0 := fun x e hx hn => by
  have h1 := h x e hx hn
  rw [mu_ne _ _ (ne_fresh h1 hq)]; exact h1
theorem KP.old {M M1 : Mp} {h0 q : Nat} {c : va_E} (h : KP M M1 h0) (hq : M q = none) : KP M (mu M1 q c) h0 := fun x e hx hn => by
  rw [mu_ne _ _ (ne_fresh hx hq)]; exact h x e hx hn
theorem row0 (g : Nat → Nat) : (fun j => if j < 0 then some (g j) else none) = (fun _ => none : Nat → Option Nat) := by
  funext j; simp
theorem KP.none {M M1 : Mp} {h0 q : Nat} (h : KP M M1 h0) (hq : M1 q = none) (hn : h0 ≠ q) : M q = none := by
  cases hm : M q with
  | none => rfl
  | some e => rw [h q e hm (Ne.symm hn)] at hq; cases hq
theorem wgen {P : Nat → Nat → Prop} {a b : Nat} (h : ∀ x y, x = a → y = b → P x y) : P a b := h a b rfl rfl
def fS (r k : Nat) : Nat → Nat := fun j => if j < r then rlen j else if j = r then k else 0
theorem fS_s (r k : Nat) : fU (fS r k) r = fS r (k + 1) := by
  funext j; unfold fU fS
  by_cases h : j = r
  · subst h; simp
  · rw [if_neg h]; by_cases h2 : j < r <;> simp [h, h2]
theorem fS_e (r : Nat) : fS r (rlen r) = fS (r + 1) 0 := by
  funext j; unfold fS
  by_cases h : j = r
  · subst h; simp
  · by_cases h2 : j < r
    · rw [if_pos h2, if_pos (by omega)]
    · rw [if_neg h2, if_neg h, if_neg (by omega)]; split <;> rfl
theorem fS_r (r k : Nat) : fS r k r = k := by simp [fS]
theorem kwX7_init_1 : Cond.methodLink RX7 1 objectInit ∈ wsX7_init := List.mem_of_getElem? (i := 1) rfl
theorem kwX7_init_2 : Cond.instanceMethod objectInit ∈ wsX7_init := List.mem_of_getElem? (i := 2) rfl
theorem kwX7_init_3 : Cond.code objectInit ⟨#[0xb1]⟩ 1 none ∈ wsX7_init := List.mem_of_getElem? (i := 3) rfl
theorem kwX7_init_4 : Cond.classLink RX7 9 RX0 ∈ wsX7_init := List.mem_of_getElem? (i := 4) rfl
theorem kwX7_init_5 : Cond.fieldLink RX7 11 "CardPort" "banks" "[LCardPort$Bank;" ∈ wsX7_init := List.mem_of_getElem? (i := 5) rfl
theorem htX7_init_wsX701 : ∀ w ∈ wsX70, w ∈ wsX7_init := fun _ h => List.mem_cons_of_mem _ (List.mem_append_left _ (List.mem_append_left _ (List.mem_append_left _ (List.mem_append_left _ (List.mem_append_left _ (List.mem_append_right _ h))))))
theorem kwX7_init_6 : Cond.classLink RX7 15 RX4 ∈ wsX7_init := List.mem_of_getElem? (i := 6) rfl
theorem kwX7_init_7 : Cond.fieldLink RX7 17 "CardPort" "kinds" "[LCardPort$Kind;" ∈ wsX7_init := List.mem_of_getElem? (i := 7) rfl
theorem kwX7_init_8 : Cond.classLink RX7 21 RX6 ∈ wsX7_init := List.mem_of_getElem? (i := 8) rfl
theorem kwX7_init_9 : Cond.fieldLink RX7 23 "CardPort" "shops" "[LCardPort$Shop;" ∈ wsX7_init := List.mem_of_getElem? (i := 9) rfl
theorem kwX7_init_10 : Cond.classLink RX7 27 RX2 ∈ wsX7_init := List.mem_of_getElem? (i := 10) rfl
theorem kwX7_init_11 : Cond.fieldLink RX7 29 "CardPort" "cards" "[LCardPort$Card;" ∈ wsX7_init := List.mem_of_getElem? (i := 11) rfl
theorem kwX7_init_12 : Cond.classLink RX7 33 RJx4a65c ∈ wsX7_init := List.mem_of_getElem? (i := 12) rfl
theorem kwX7_init_13 : Cond.instantiable RJx4a65c 3 ∈ wsX7_init := List.mem_of_getElem? (i := 13) rfl
theorem kwX7_init_14 : Cond.initialized RJx4a65c ∈ wsX7_init := List.mem_of_getElem? (i := 14) rfl
theorem htX7_init_wsJx4a65c02 : ∀ w ∈ wsJx4a65c0, w ∈ wsX7_init := fun _ h => List.mem_cons_of_mem _ (List.mem_append_left _ (List.mem_append_left _ (List.mem_append_left _ (List.mem_append_left _ (List.mem_append_right _ h)))))
theorem kwX7_init_27 : Cond.methodLink RX7 35 yJx4a65c_init_da8c8 ∈ wsX7_init := List.mem_of_getElem? (i := 27) rfl
theorem kwX7_init_28 : Cond.instanceMethod yJx4a65c_init_da8c8 ∈ wsX7_init := List.mem_of_getElem? (i := 28) rfl
theorem kwX7_init_15 : Cond.fieldLink RX7 36 "CardPort" "payments" "Ljava/util/List;" ∈ wsX7_init := List.mem_of_getElem? (i := 15) rfl
theorem kwX7_init_16 : Cond.fieldLink RX7 40 "CardPort" "captures" "Ljava/util/List;" ∈ wsX7_init := List.mem_of_getElem? (i := 16) rfl
theorem kwX7_init_17 : Cond.fieldLink RX7 43 "CardPort" "chargebacks" "Ljava/util/List;" ∈ wsX7_init := List.mem_of_getElem? (i := 17) rfl
theorem kwX7_init_18 : Cond.fieldLink RX7 46 "CardPort" "day" "I" ∈ wsX7_init := List.mem_of_getElem? (i := 18) rfl
theorem kwX7_init_25 : Cond.instantiable RX2 2 ∈ wsX7_init := List.mem_of_getElem? (i := 25) rfl
theorem kwX7_init_26 : Cond.initialized RX2 ∈ wsX7_init := List.mem_of_getElem? (i := 26) rfl
theorem htX7_init_wsX206 : ∀ w ∈ wsX20, w ∈ wsX7_init := fun _ h => List.mem_cons_of_mem _ (List.mem_append_right _ h)
theorem kwX7_init_61 : Cond.methodLink RX7 57 yX2_init ∈ wsX7_init := List.mem_of_getElem? (i := 61) rfl
theorem kwX7_init_62 : Cond.instanceMethod yX2_init ∈ wsX7_init := List.mem_of_getElem? (i := 62) rfl
theorem kwX7_init_23 : Cond.instantiable RX6 3 ∈ wsX7_init := List.mem_of_getElem? (i := 23) rfl
theorem kwX7_init_24 : Cond.initialized RX6 ∈ wsX7_init := List.mem_of_getElem? (i := 24) rfl
theorem htX7_init_wsX605 : ∀ w ∈ wsX60, w ∈ wsX7_init := fun _ h => List.mem_cons_of_mem _ (List.mem_append_left _ (List.mem_append_right _ h))
theorem kwX7_init_54 : Cond.methodLink RX7 54 yX6_init ∈ wsX7_init := List.mem_of_getElem? (i := 54) rfl
theorem kwX7_init_55 : Cond.instanceMethod yX6_init ∈ wsX7_init := List.mem_of_getElem? (i := 55) rfl
theorem kwX7_init_21 : Cond.instantiable RX4 3 ∈ wsX7_init := List.mem_of_getElem? (i := 21) rfl
theorem kwX7_init_22 : Cond.initialized RX4 ∈ wsX7_init := List.mem_of_getElem? (i := 22) rfl
theorem htX7_init_wsX404 : ∀ w ∈ wsX40, w ∈ wsX7_init := fun _ h => List.mem_cons_of_mem _ (List.mem_append_left _ (List.mem_append_left _ (List.mem_append_right _ h)))
theorem kwX7_init_47 : Cond.methodLink RX7 51 yX4_init ∈ wsX7_init := List.mem_of_getElem? (i := 47) rfl
theorem kwX7_init_48 : Cond.instanceMethod yX4_init ∈ wsX7_init := List.mem_of_getElem? (i := 48) rfl
theorem kwX7_init_19 : Cond.instantiable RX0 2 ∈ wsX7_init := List.mem_of_getElem? (i := 19) rfl
theorem kwX7_init_20 : Cond.initialized RX0 ∈ wsX7_init := List.mem_of_getElem? (i := 20) rfl
theorem htX7_init_wsX003 : ∀ w ∈ wsX00, w ∈ wsX7_init := fun _ h => List.mem_cons_of_mem _ (List.mem_append_left _ (List.mem_append_left _ (List.mem_append_left _ (List.mem_append_right _ h))))
theorem kwX7_init_42 : Cond.instanceMethod yX0_init ∈ wsX7_init := List.mem_of_getElem? (i := 42) rfl
set_option maxHeartbeats 4000000 in
set_option maxRecDepth 100000 in
theorem c_X7_init (l : Launch) (D : va_G) (kc : Nat → ClassId) (A : Nat → Prop) (e0 : Nat × Nat) (M : Mp) (h0 : Nat) (x : Int32) (hm : M h0 = some (.inr (8, [.null, .null, .null, .null, .null, .null, .null, .int x]))) : Met l yX7_init wsX7_init ({ frames := 6, cells := 100, slots := 700, locals := 90 }) (mPre D kc A e0 M [.ref h0]) (va_Qv (fun M1 => ∃ ad, PI kc e0 (fS 3 12) ad M1 ∧ ad 7 0 = h0 ∧ KP M M1 h0) (mB D A) A) 100 700 A := by
  refine Met.ofW (cc := cX7_init) (maxL := 2) (ret := none) (by decide) rfl ?_
  intro p e s m args below meth c s₁ B hml hv
  obtain ⟨rfl, hw, hK, hA, hcx⟩ := hv
  have X : mX p s m _ c cX7_init 2 RX7 wsX7_init D kc := ⟨⟨B.exec, B.bytes, hml, findClass_of_methodNamed B.named, atoms_spec (ws := wsX7_init) B.pre⟩, hK⟩
  have hx := B.exec
  have hb := B.bytes
  have hr := B.returns
  have hlocks := B.notSynchronized
  have hin : meth.name = "<init>" := (name_of_methodNamed B.named B.method).1
  have Y : mY D A M s s.heap [] := ⟨hw, va_S.rf⟩
  have hl := lv_entry ([.ref h0]) (n := 2) (Nat.le_of_ble_eq_true rfl)
  rw [lg_entry_eq]
  generalize (lg_sl ([.ref h0]) ++ List.replicate (2 - (lg_sl ([.ref h0])).length) Slot.unset).toArray = ls at hl ⊢
  have hl : lv_has ls 2 [(0, .ref h0)] := hl
  refine lv_aload_n hx hb dX7_init_0 rfl (lv_at hl 0 rfl) ?_
  refine W.objInit hx hb X.1.2.2.2.1 (X.1.2.2.2.2 _ kwX7_init_1) (X.1.2.2.2.2 _ kwX7_init_2) (X.1.2.2.2.2 _ kwX7_init_3) rfl (by rw [hml]; exact hl.1) rfl dX7_init_1 (Nat.le_of_ble_eq_true rfl) (Nat.le_of_ble_eq_true rfl) ?_
  refine W.eq (g2 := F0 m 4 ls []) rfl ?_
  refine lv_aload_n hx hb dX7_init_4 rfl (lv_at hl 0 rfl) ?_
  refine n_iconst hx hb 4 dX7_init_5 (by decide) ?_
  refine m_newq (C := RX0) X Y hA 3 rfl kwX7_init_4 (hcx.1.2.2.2.2.1 _ (by decide)) 4 (by decide) (by decide) (by decide) (by decide) (by decide) dX7_init_6 (fun q1 H fq1 Y => ?_)
  obtain ⟨M2, eM2⟩ : ∃ zz9 : Mp, zz9 = mu M q1 (qrow (kc 3) 4 (fun _ => none)) := ⟨_, rfl⟩
  replace Y : mY D A M2 s H [] := by rw [eM2]; exact Y
  have hh3 : M2 h0 = some (.inr (8, [.null, .null, .null, .null, .null, .null, .null, .int x])) := by rw [eM2, mu_ne _ _ (ne_fresh hm fq1)]; exact hm
  have hh4 : M2 q1 = some (qrow (kc 3) 4 (fun _ => none)) := by rw [eM2]; exact mu_self _ _ _
  refine m_putF (ref := "CardPort") (C := RX7) (T := TX7) (N := 8) (ci := 8) X Y htX7_init_wsX701 tyX7 tyX7_ok nmX7 hin hh3 rfl 0 (by decide) kwX7_init_5 rfl rfl rfl (v := .ref q1) rfl rfl (Nat.le_of_ble_eq_true rfl) dX7_init_9 (fun H locs Y => ?_)
  obtain ⟨M5, eM5⟩ : ∃ zz9 : Mp, zz9 = mu M2 h0 (.inr (8, [.ref q1, .null, .null, .null, .null, .null, .null, .int x])) := ⟨_, rfl⟩
  replace Y : mY D A M5 s H locs := by rw [eM5]; exact Y
  have hh6 : M5 q1 = some (qrow (kc 3) 4 (fun _ => none)) := by rw [eM5, mu_ne _ _ (Ne.symm (ne_fresh hm fq1))]; exact hh4
  have hh7 : M5 h0 = some (.inr (8, [.ref q1, .null, .null, .null, .null, .null, .null, .int x])) := by rw [eM5]; exact mu_self _ _ _
  refine lv_aload_n hx hb dX7_init_12 rfl (lv_at hl 0 rfl) ?_
  refine n_iconst hx hb 3 dX7_init_13 (by decide) ?_
  refine m_newq (C := RX4) X Y hA 4 rfl kwX7_init_6 (hcx.1.2.2.2.2.1 _ (by decide)) 3 (by decide) (by decide) (by decide) (by decide) (by decide) dX7_init_14 (fun q8 H fq8 Y => ?_)
  obtain ⟨M9, eM9⟩ : ∃ zz9 : Mp, zz9 = mu M5 q8 (qrow (kc 4) 3 (fun _ => none)) := ⟨_, rfl⟩
  replace Y : mY D A M9 s H locs := by rw [eM9]; exact Y
  have hh10 : M9 q1 = some (qrow (kc 3) 4 (fun _ => none)) := by rw [eM9, mu_ne _ _ (ne_fresh hh6 fq8)]; exact hh6
  have hh11 : M9 h0 = some (.inr (8, [.ref q1, .null, .null, .null, .null, .null, .null, .int x])) := by rw [eM9, mu_ne _ _ (ne_fresh hh7 fq8)]; exact hh7
  have hh12 : M9 q8 = some (qrow (kc 4) 3 (fun _ => none)) := by rw [eM9]; exact mu_self _ _ _
  refine m_putF (ref := "CardPort") (C := RX7) (T := TX7) (N := 8) (ci := 8) X Y htX7_init_wsX701 tyX7 tyX7_ok nmX7 hin hh11 rfl 1 (by decide) kwX7_init_7 rfl rfl rfl (v := .ref q8) rfl rfl (Nat.le_of_ble_eq_true rfl) dX7_init_17 (fun H locs Y => ?_)
  obtain ⟨M13, eM13⟩ : ∃ zz9 : Mp, zz9 = mu M9 h0 (.inr (8, [.ref q1, .ref q8, .null, .null, .null, .null, .null, .int x])) := ⟨_, rfl⟩
  replace Y : mY D A M13 s H locs := by rw [eM13]; exact Y
  have hh14 : M13 q1 = some (qrow (kc 3) 4 (fun _ => none)) := by rw [eM13, mu_ne _ _ (Ne.symm (ne_fresh hm fq1))]; exact hh10
  have hh15 : M13 q8 = some (qrow (kc 4) 3 (fun _ => none)) := by rw [eM13, mu_ne _ _ (Ne.symm (ne_fresh hh7 fq8))]; exact hh12
  have hh16 : M13 h0 = some (.inr (8, [.ref q1, .ref q8, .null, .null, .null, .null, .null, .int x])) := by rw [eM13]; exact mu_self _ _ _
  refine lv_aload_n hx hb dX7_init_20 rfl (lv_at hl 0 rfl) ?_
  refine n_bipush hx hb 8 dX7_init_21 (by decide) ?_
  refine m_newq (C := RX6) X Y hA 5 rfl kwX7_init_8 (hcx.1.2.2.2.2.1 _ (by decide)) 8 (by decide) (by decide) (by decide) (by decide) (by decide) dX7_init_23 (fun q17 H fq17 Y => ?_)
  obtain ⟨M18, eM18⟩ : ∃ zz9 : Mp, zz9 = mu M13 q17 (qrow (kc 5) 8 (fun _ => none)) := ⟨_, rfl⟩
  replace Y : mY D A M18 s H locs := by rw [eM18]; exact Y
  have hh19 : M18 q1 = some (qrow (kc 3) 4 (fun _ => none)) := by rw [eM18, mu_ne _ _ (ne_fresh hh14 fq17)]; exact hh14
  have hh20 : M18 q8 = some (qrow (kc 4) 3 (fun _ => none)) := by rw [eM18, mu_ne _ _ (ne_fresh hh15 fq17)]; exact hh15
  have hh21 : M18 h0 = some (.inr (8, [.ref q1, .ref q8, .null, .null, .null, .null, .null, .int x])) := by rw [eM18, mu_ne _ _ (ne_fresh hh16 fq17)]; exact hh16
  have hh22 : M18 q17 = some (qrow (kc 5) 8 (fun _ => none)) := by rw [eM18]; exact mu_self _ _ _
  refine m_putF (ref := "CardPort") (C := RX7) (T := TX7) (N := 8) (ci := 8) X Y htX7_init_wsX701 tyX7 tyX7_ok nmX7 hin hh21 rfl 2 (by decide) kwX7_init_9 rfl rfl rfl (v := .ref q17) rfl rfl (Nat.le_of_ble_eq_true rfl) dX7_init_26 (fun H locs Y => ?_)
  obtain ⟨M23, eM23⟩ : ∃ zz9 : Mp, zz9 = mu M18 h0 (.inr (8, [.ref q1, .ref q8, .ref q17, .null, .null, .null, .null, .int x])) := ⟨_, rfl⟩
  replace Y : mY D A M23 s H locs := by rw [eM23]; exact Y
  have hh24 : M23 q1 = some (qrow (kc 3) 4 (fun _ => none)) := by rw [eM23, mu_ne _ _ (Ne.symm (ne_fresh hm fq1))]; exact hh19
  have hh25 : M23 q8 = some (qrow (kc 4) 3 (fun _ => none)) := by rw [eM23, mu_ne _ _ (Ne.symm (ne_fresh hh7 fq8))]; exact hh20
  have hh26 : M23 q17 = some (qrow (kc 5) 8 (fun _ => none)) := by rw [eM23, mu_ne _ _ (Ne.symm (ne_fresh hh16 fq17))]; exact hh22
  have hh27 : M23 h0 = some (.inr (8, [.ref q1, .ref q8, .ref q17, .null, .null, .null, .null, .int x])) := by rw [eM23]; exact mu_self _ _ _
  refine lv_aload_n hx hb dX7_init_29 rfl (lv_at hl 0 rfl) ?_
  refine n_bipush hx hb 12 dX7_init_30 (by decide) ?_
  refine m_newq (C := RX2) X Y hA 6 rfl kwX7_init_10 (hcx.1.2.2.2.2.1 _ (by decide)) 12 (by decide) (by decide) (by decide) (by decide) (by decide) dX7_init_32 (fun q28 H fq28 Y => ?_)
  obtain ⟨M29, eM29⟩ : ∃ zz9 : Mp, zz9 = mu M23 q28 (qrow (kc 6) 12 (fun _ => none)) := ⟨_, rfl⟩
  replace Y : mY D A M29 s H locs := by rw [eM29]; exact Y
  have hh30 : M29 q1 = some (qrow (kc 3) 4 (fun _ => none)) := by rw [eM29, mu_ne _ _ (ne_fresh hh24 fq28)]; exact hh24
  have hh31 : M29 q8 = some (qrow (kc 4) 3 (fun _ => none)) := by rw [eM29, mu_ne _ _ (ne_fresh hh25 fq28)]; exact hh25
  have hh32 : M29 q17 = some (qrow (kc 5) 8 (fun _ => none)) := by rw [eM29, mu_ne _ _ (ne_fresh hh26 fq28)]; exact hh26
  have hh33 : M29 h0 = some (.inr (8, [.ref q1, .ref q8, .ref q17, .null, .null, .null, .null, .int x])) := by rw [eM29, mu_ne _ _ (ne_fresh hh27 fq28)]; exact hh27
  have hh34 : M29 q28 = some (qrow (kc 6) 12 (fun _ => none)) := by rw [eM29]; exact mu_self _ _ _
  refine m_putF (ref := "CardPort") (C := RX7) (T := TX7) (N := 8) (ci := 8) X Y htX7_init_wsX701 tyX7 tyX7_ok nmX7 hin hh33 rfl 3 (by decide) kwX7_init_11 rfl rfl rfl (v := .ref q28) rfl rfl (Nat.le_of_ble_eq_true rfl) dX7_init_35 (fun H locs Y => ?_)
  obtain ⟨M35, eM35⟩ : ∃ zz9 : Mp, zz9 = mu M29 h0 (.inr (8, [.ref q1, .ref q8, .ref q17, .ref q28, .null, .null, .null, .int x])) := ⟨_, rfl⟩
  replace Y : mY D A M35 s H locs := by rw [eM35]; exact Y
  have hh36 : M35 q1 = some (qrow (kc 3) 4 (fun _ => none)) := by rw [eM35, mu_ne _ _ (Ne.symm (ne_fresh hm fq1))]; exact hh30
  have hh37 : M35 q8 = some (qrow (kc 4) 3 (fun _ => none)) := by rw [eM35, mu_ne _ _ (Ne.symm (ne_fresh hh7 fq8))]; exact hh31
  have hh38 : M35 q17 = some (qrow (kc 5) 8 (fun _ => none)) := by rw [eM35, mu_ne _ _ (Ne.symm (ne_fresh hh16 fq17))]; exact hh32
  have hh39 : M35 q28 = some (qrow (kc 6) 12 (fun _ => none)) := by rw [eM35, mu_ne _ _ (Ne.symm (ne_fresh hh27 fq28))]; exact hh34
  have hh40 : M35 h0 = some (.inr (8, [.ref q1, .ref q8, .ref q17, .ref q28, .null, .null, .null, .int x])) := by rw [eM35]; exact mu_self _ _ _
  refine lv_aload_n hx hb dX7_init_38 rfl (lv_at hl 0 rfl) ?_
  refine m_new (C := RJx4a65c) (T := TJx4a65c) (N := 3) (ci := 0) X Y hA htX7_init_wsJx4a65c02 tyJx4a65c tyJx4a65c_ok kwX7_init_12 kwX7_init_13 kwX7_init_14 rfl (fs := [.int 0, .null, .int 0]) (fun j hj => by rcases (show j = 0 ∨ j = 1 ∨ j = 2 by omega) with rfl | rfl | rfl <;> rfl) (by decide) (by decide) dX7_init_39 (fun q41 H fq41 Y => ?_)
  obtain ⟨M42, eM42⟩ : ∃ zz9 : Mp, zz9 = mu M35 q41 (.inr (0, [.int 0, .null, .int 0])) := ⟨_, rfl⟩
  replace Y : mY D A M42 s H locs := by rw [eM42]; exact Y
  have hh43 : M42 q1 = some (qrow (kc 3) 4 (fun _ => none)) := by rw [eM42, mu_ne _ _ (ne_fresh hh36 fq41)]; exact hh36
  have hh44 : M42 q8 = some (qrow (kc 4) 3 (fun _ => none)) := by rw [eM42, mu_ne _ _ (ne_fresh hh37 fq41)]; exact hh37
  have hh45 : M42 q17 = some (qrow (kc 5) 8 (fun _ => none)) := by rw [eM42, mu_ne _ _ (ne_fresh hh38 fq41)]; exact hh38
  have hh46 : M42 q28 = some (qrow (kc 6) 12 (fun _ => none)) := by rw [eM42, mu_ne _ _ (ne_fresh hh39 fq41)]; exact hh39
  have hh47 : M42 h0 = some (.inr (8, [.ref q1, .ref q8, .ref q17, .ref q28, .null, .null, .null, .int x])) := by rw [eM42, mu_ne _ _ (ne_fresh hh40 fq41)]; exact hh40
  have hh48 : M42 q41 = some (.inr (0, [.int 0, .null, .int 0])) := by rw [eM42]; exact mu_self _ _ _
  refine lv_dup hx hb dX7_init_42 rfl ?_
  refine m_Iv (As := []) (rest := [.ref q41, .ref h0]) X Y hA hcx (c_ArrayList_init l D kc A e0 M42 q41  0 0 hh48) (cwI 0 X.1.2.2.2.2 gX7_init_Jx4a65c_init_da8c8 rfl rfl rfl (X.1.2.2.2.2 _ kwX7_init_14) (X.1.2.2.2.2 _ kwX7_init_27) (X.1.2.2.2.2 _ kwX7_init_28) rfl (by decide +kernel) ⟨Nat.le_of_ble_eq_true rfl, Nat.le_of_ble_eq_true rfl⟩) rfl rfl hl.1 (Nat.le_of_ble_eq_true rfl) dX7_init_43 ⟨by decide, by decide⟩ (fun M49 H locs p50 Y => ?_)
  have hh51 : M49 q1 = some (qrow (kc 3) 4 (fun _ => none)) := by rw [p50, mu_ne _ _ (ne_fresh hh36 fq41)]; exact hh43
  have hh52 : M49 q8 = some (qrow (kc 4) 3 (fun _ => none)) := by rw [p50, mu_ne _ _ (ne_fresh hh37 fq41)]; exact hh44
  have hh53 : M49 q17 = some (qrow (kc 5) 8 (fun _ => none)) := by rw [p50, mu_ne _ _ (ne_fresh hh38 fq41)]; exact hh45
  have hh54 : M49 q28 = some (qrow (kc 6) 12 (fun _ => none)) := by rw [p50, mu_ne _ _ (ne_fresh hh39 fq41)]; exact hh46
  have hh55 : M49 h0 = some (.inr (8, [.ref q1, .ref q8, .ref q17, .ref q28, .null, .null, .null, .int x])) := by rw [p50, mu_ne _ _ (ne_fresh hh40 fq41)]; exact hh47
  have hh56 : M49 q41 = some (.inr (0, [.int (nI 0), .ref e0.1, .int 0])) := by rw [p50]; exact mu_self _ _ _
  have p50q : M49 = mu M35 q41 (.inr (0, [.int (nI 0), .ref e0.1, .int 0])) := by rw [p50, eM42, mu_mu]
  refine m_putF (ref := "CardPort") (C := RX7) (T := TX7) (N := 8) (ci := 8) X Y htX7_init_wsX701 tyX7 tyX7_ok nmX7 hin hh55 rfl 4 (by decide) kwX7_init_15 rfl rfl rfl (v := .ref q41) rfl rfl (Nat.le_of_ble_eq_true rfl) dX7_init_46 (fun H locs Y => ?_)
  obtain ⟨M57, eM57⟩ : ∃ zz9 : Mp, zz9 = mu M49 h0 (.inr (8, [.ref q1, .ref q8, .ref q17, .ref q28, .ref q41, .null, .null, .int x])) := ⟨_, rfl⟩
  replace Y : mY D A M57 s H locs := by rw [eM57]; exact Y
  have hh58 : M57 q1 = some (qrow (kc 3) 4 (fun _ => none)) := by rw [eM57, mu_ne _ _ (Ne.symm (ne_fresh hm fq1))]; exact hh51
  have hh59 : M57 q8 = some (qrow (kc 4) 3 (fun _ => none)) := by rw [eM57, mu_ne _ _ (Ne.symm (ne_fresh hh7 fq8))]; exact hh52
  have hh60 : M57 q17 = some (qrow (kc 5) 8 (fun _ => none)) := by rw [eM57, mu_ne _ _ (Ne.symm (ne_fresh hh16 fq17))]; exact hh53
  have hh61 : M57 q28 = some (qrow (kc 6) 12 (fun _ => none)) := by rw [eM57, mu_ne _ _ (Ne.symm (ne_fresh hh27 fq28))]; exact hh54
  have hh62 : M57 q41 = some (.inr (0, [.int (nI 0), .ref e0.1, .int 0])) := by rw [eM57, mu_ne _ _ (Ne.symm (ne_fresh hh40 fq41))]; exact hh56
  have hh63 : M57 h0 = some (.inr (8, [.ref q1, .ref q8, .ref q17, .ref q28, .ref q41, .null, .null, .int x])) := by rw [eM57]; exact mu_self _ _ _
  refine lv_aload_n hx hb dX7_init_49 rfl (lv_at hl 0 rfl) ?_
  refine m_new (C := RJx4a65c) (T := TJx4a65c) (N := 3) (ci := 0) X Y hA htX7_init_wsJx4a65c02 tyJx4a65c tyJx4a65c_ok kwX7_init_12 kwX7_init_13 kwX7_init_14 rfl (fs := [.int 0, .null, .int 0]) (fun j hj => by rcases (show j = 0 ∨ j = 1 ∨ j = 2 by omega) with rfl | rfl | rfl <;> rfl) (by decide) (by decide) dX7_init_50 (fun q64 H fq64 Y => ?_)
  obtain ⟨M65, eM65⟩ : ∃ zz9 : Mp, zz9 = mu M57 q64 (.inr (0, [.int 0, .null, .int 0])) := ⟨_, rfl⟩
  replace Y : mY D A M65 s H locs := by rw [eM65]; exact Y
  have hh66 : M65 q1 = some (qrow (kc 3) 4 (fun _ => none)) := by rw [eM65, mu_ne _ _ (ne_fresh hh58 fq64)]; exact hh58
  have hh67 : M65 q8 = some (qrow (kc 4) 3 (fun _ => none)) := by rw [eM65, mu_ne _ _ (ne_fresh hh59 fq64)]; exact hh59
  have hh68 : M65 q17 = some (qrow (kc 5) 8 (fun _ => none)) := by rw [eM65, mu_ne _ _ (ne_fresh hh60 fq64)]; exact hh60
  have hh69 : M65 q28 = some (qrow (kc 6) 12 (fun _ => none)) := by rw [eM65, mu_ne _ _ (ne_fresh hh61 fq64)]; exact hh61
  have hh70 : M65 q41 = some (.inr (0, [.int (nI 0), .ref e0.1, .int 0])) := by rw [eM65, mu_ne _ _ (ne_fresh hh62 fq64)]; exact hh62
  have hh71 : M65 h0 = some (.inr (8, [.ref q1, .ref q8, .ref q17, .ref q28, .ref q41, .null, .null, .int x])) := by rw [eM65, mu_ne _ _ (ne_fresh hh63 fq64)]; exact hh63
  have hh72 : M65 q64 = some (.inr (0, [.int 0, .null, .int 0])) := by rw [eM65]; exact mu_self _ _ _
  refine lv_dup hx hb dX7_init_53 rfl ?_
  refine m_Iv (As := []) (rest := [.ref q64, .ref h0]) X Y hA hcx (c_ArrayList_init l D kc A e0 M65 q64  0 0 hh72) (cwI 0 X.1.2.2.2.2 gX7_init_Jx4a65c_init_da8c8 rfl rfl rfl (X.1.2.2.2.2 _ kwX7_init_14) (X.1.2.2.2.2 _ kwX7_init_27) (X.1.2.2.2.2 _ kwX7_init_28) rfl (by decide +kernel) ⟨Nat.le_of_ble_eq_true rfl, Nat.le_of_ble_eq_true rfl⟩) rfl rfl hl.1 (Nat.le_of_ble_eq_true rfl) dX7_init_54 ⟨by decide, by decide⟩ (fun M73 H locs p74 Y => ?_)
  have hh75 : M73 q1 = some (qrow (kc 3) 4 (fun _ => none)) := by rw [p74, mu_ne _ _ (ne_fresh hh58 fq64)]; exact hh66
  have hh76 : M73 q8 = some (qrow (kc 4) 3 (fun _ => none)) := by rw [p74, mu_ne _ _ (ne_fresh hh59 fq64)]; exact hh67
  have hh77 : M73 q17 = some (qrow (kc 5) 8 (fun _ => none)) := by rw [p74, mu_ne _ _ (ne_fresh hh60 fq64)]; exact hh68
  have hh78 : M73 q28 = some (qrow (kc 6) 12 (fun _ => none)) := by rw [p74, mu_ne _ _ (ne_fresh hh61 fq64)]; exact hh69
  have hh79 : M73 q41 = some (.inr (0, [.int (nI 0), .ref e0.1, .int 0])) := by rw [p74, mu_ne _ _ (ne_fresh hh62 fq64)]; exact hh70
  have hh80 : M73 h0 = some (.inr (8, [.ref q1, .ref q8, .ref q17, .ref q28, .ref q41, .null, .null, .int x])) := by rw [p74, mu_ne _ _ (ne_fresh hh63 fq64)]; exact hh71
  have hh81 : M73 q64 = some (.inr (0, [.int (nI 0), .ref e0.1, .int 0])) := by rw [p74]; exact mu_self _ _ _
  have p74q : M73 = mu M57 q64 (.inr (0, [.int (nI 0), .ref e0.1, .int 0])) := by rw [p74, eM65, mu_mu]
  refine m_putF (ref := "CardPort") (C := RX7) (T := TX7) (N := 8) (ci := 8) X Y htX7_init_wsX701 tyX7 tyX7_ok nmX7 hin hh80 rfl 5 (by decide) kwX7_init_16 rfl rfl rfl (v := .ref q64) rfl rfl (Nat.le_of_ble_eq_true rfl) dX7_init_57 (fun H locs Y => ?_)
  obtain ⟨M82, eM82⟩ : ∃ zz9 : Mp, zz9 = mu M73 h0 (.inr (8, [.ref q1, .ref q8, .ref q17, .ref q28, .ref q41, .ref q64, .null, .int x])) := ⟨_, rfl⟩
  replace Y : mY D A M82 s H locs := by rw [eM82]; exact Y
  have hh83 : M82 q1 = some (qrow (kc 3) 4 (fun _ => none)) := by rw [eM82, mu_ne _ _ (Ne.symm (ne_fresh hm fq1))]; exact hh75
  have hh84 : M82 q8 = some (qrow (kc 4) 3 (fun _ => none)) := by rw [eM82, mu_ne _ _ (Ne.symm (ne_fresh hh7 fq8))]; exact hh76
  have hh85 : M82 q17 = some (qrow (kc 5) 8 (fun _ => none)) := by rw [eM82, mu_ne _ _ (Ne.symm (ne_fresh hh16 fq17))]; exact hh77
  have hh86 : M82 q28 = some (qrow (kc 6) 12 (fun _ => none)) := by rw [eM82, mu_ne _ _ (Ne.symm (ne_fresh hh27 fq28))]; exact hh78
  have hh87 : M82 q41 = some (.inr (0, [.int (nI 0), .ref e0.1, .int 0])) := by rw [eM82, mu_ne _ _ (Ne.symm (ne_fresh hh40 fq41))]; exact hh79
  have hh88 : M82 q64 = some (.inr (0, [.int (nI 0), .ref e0.1, .int 0])) := by rw [eM82, mu_ne _ _ (Ne.symm (ne_fresh hh63 fq64))]; exact hh81
  have hh89 : M82 h0 = some (.inr (8, [.ref q1, .ref q8, .ref q17, .ref q28, .ref q41, .ref q64, .null, .int x])) := by rw [eM82]; exact mu_self _ _ _
  refine lv_aload_n hx hb dX7_init_60 rfl (lv_at hl 0 rfl) ?_
  refine m_new (C := RJx4a65c) (T := TJx4a65c) (N := 3) (ci := 0) X Y hA htX7_init_wsJx4a65c02 tyJx4a65c tyJx4a65c_ok kwX7_init_12 kwX7_init_13 kwX7_init_14 rfl (fs := [.int 0, .null, .int 0]) (fun j hj => by rcases (show j = 0 ∨ j = 1 ∨ j = 2 by omega) with rfl | rfl | rfl <;> rfl) (by decide) (by decide) dX7_init_61 (fun q90 H fq90 Y => ?_)
  obtain ⟨M91, eM91⟩ : ∃ zz9 : Mp, zz9 = mu M82 q90 (.inr (0, [.int 0, .null, .int 0])) := ⟨_, rfl⟩
  replace Y : mY D A M91 s H locs := by rw [eM91]; exact Y
  have hh92 : M91 q1 = some (qrow (kc 3) 4 (fun _ => none)) := by rw [eM91, mu_ne _ _ (ne_fresh hh83 fq90)]; exact hh83
  have hh93 : M91 q8 = some (qrow (kc 4) 3 (fun _ => none)) := by rw [eM91, mu_ne _ _ (ne_fresh hh84 fq90)]; exact hh84
  have hh94 : M91 q17 = some (qrow (kc 5) 8 (fun _ => none)) := by rw [eM91, mu_ne _ _ (ne_fresh hh85 fq90)]; exact hh85
  have hh95 : M91 q28 = some (qrow (kc 6) 12 (fun _ => none)) := by rw [eM91, mu_ne _ _ (ne_fresh hh86 fq90)]; exact hh86
  have hh96 : M91 q41 = some (.inr (0, [.int (nI 0), .ref e0.1, .int 0])) := by rw [eM91, mu_ne _ _ (ne_fresh hh87 fq90)]; exact hh87
  have hh97 : M91 q64 = some (.inr (0, [.int (nI 0), .ref e0.1, .int 0])) := by rw [eM91, mu_ne _ _ (ne_fresh hh88 fq90)]; exact hh88
  have hh98 : M91 h0 = some (.inr (8, [.ref q1, .ref q8, .ref q17, .ref q28, .ref q41, .ref q64, .null, .int x])) := by rw [eM91, mu_ne _ _ (ne_fresh hh89 fq90)]; exact hh89
  have hh99 : M91 q90 = some (.inr (0, [.int 0, .null, .int 0])) := by rw [eM91]; exact mu_self _ _ _
  refine lv_dup hx hb dX7_init_64 rfl ?_
  refine m_Iv (As := []) (rest := [.ref q90, .ref h0]) X Y hA hcx (c_ArrayList_init l D kc A e0 M91 q90  0 0 hh99) (cwI 0 X.1.2.2.2.2 gX7_init_Jx4a65c_init_da8c8 rfl rfl rfl (X.1.2.2.2.2 _ kwX7_init_14) (X.1.2.2.2.2 _ kwX7_init_27) (X.1.2.2.2.2 _ kwX7_init_28) rfl (by decide +kernel) ⟨Nat.le_of_ble_eq_true rfl, Nat.le_of_ble_eq_true rfl⟩) rfl rfl hl.1 (Nat.le_of_ble_eq_true rfl) dX7_init_65 ⟨by decide, by decide⟩ (fun M100 H locs p101 Y => ?_)
  have hh102 : M100 q1 = some (qrow (kc 3) 4 (fun _ => none)) := by rw [p101, mu_ne _ _ (ne_fresh hh83 fq90)]; exact hh92
  have hh103 : M100 q8 = some (qrow (kc 4) 3 (fun _ => none)) := by rw [p101, mu_ne _ _ (ne_fresh hh84 fq90)]; exact hh93
  have hh104 : M100 q17 = some (qrow (kc 5) 8 (fun _ => none)) := by rw [p101, mu_ne _ _ (ne_fresh hh85 fq90)]; exact hh94
  have hh105 : M100 q28 = some (qrow (kc 6) 12 (fun _ => none)) := by rw [p101, mu_ne _ _ (ne_fresh hh86 fq90)]; exact hh95
  have hh106 : M100 q41 = some (.inr (0, [.int (nI 0), .ref e0.1, .int 0])) := by rw [p101, mu_ne _ _ (ne_fresh hh87 fq90)]; exact hh96
  have hh107 : M100 q64 = some (.inr (0, [.int (nI 0), .ref e0.1, .int 0])) := by rw [p101, mu_ne _ _ (ne_fresh hh88 fq90)]; exact hh97
  have hh108 : M100 h0 = some (.inr (8, [.ref q1, .ref q8, .ref q17, .ref q28, .ref q41, .ref q64, .null, .int x])) := by rw [p101, mu_ne _ _ (ne_fresh hh89 fq90)]; exact hh98
  have hh109 : M100 q90 = some (.inr (0, [.int (nI 0), .ref e0.1, .int 0])) := by rw [p101]; exact mu_self _ _ _
  have p101q : M100 = mu M82 q90 (.inr (0, [.int (nI 0), .ref e0.1, .int 0])) := by rw [p101, eM91, mu_mu]
  refine m_putF (ref := "CardPort") (C := RX7) (T := TX7) (N := 8) (ci := 8) X Y htX7_init_wsX701 tyX7 tyX7_ok nmX7 hin hh108 rfl 6 (by decide) kwX7_init_17 rfl rfl rfl (v := .ref q90) rfl rfl (Nat.le_of_ble_eq_true rfl) dX7_init_68 (fun H locs Y => ?_)
  obtain ⟨M110, eM110⟩ : ∃ zz9 : Mp, zz9 = mu M100 h0 (.inr (8, [.ref q1, .ref q8, .ref q17, .ref q28, .ref q41, .ref q64, .ref q90, .int x])) := ⟨_, rfl⟩
  replace Y : mY D A M110 s H locs := by rw [eM110]; exact Y
  have hh111 : M110 q1 = some (qrow (kc 3) 4 (fun _ => none)) := by rw [eM110, mu_ne _ _ (Ne.symm (ne_fresh hm fq1))]; exact hh102
  have hh112 : M110 q8 = some (qrow (kc 4) 3 (fun _ => none)) := by rw [eM110, mu_ne _ _ (Ne.symm (ne_fresh hh7 fq8))]; exact hh103
  have hh113 : M110 q17 = some (qrow (kc 5) 8 (fun _ => none)) := by rw [eM110, mu_ne _ _ (Ne.symm (ne_fresh hh16 fq17))]; exact hh104
  have hh114 : M110 q28 = some (qrow (kc 6) 12 (fun _ => none)) := by rw [eM110, mu_ne _ _ (Ne.symm (ne_fresh hh27 fq28))]; exact hh105
  have hh115 : M110 q41 = some (.inr (0, [.int (nI 0), .ref e0.1, .int 0])) := by rw [eM110, mu_ne _ _ (Ne.symm (ne_fresh hh40 fq41))]; exact hh106
  have hh116 : M110 q64 = some (.inr (0, [.int (nI 0), .ref e0.1, .int 0])) := by rw [eM110, mu_ne _ _ (Ne.symm (ne_fresh hh63 fq64))]; exact hh107
  have hh117 : M110 q90 = some (.inr (0, [.int (nI 0), .ref e0.1, .int 0])) := by rw [eM110, mu_ne _ _ (Ne.symm (ne_fresh hh89 fq90))]; exact hh109
  have hh118 : M110 h0 = some (.inr (8, [.ref q1, .ref q8, .ref q17, .ref q28, .ref q41, .ref q64, .ref q90, .int x])) := by rw [eM110]; exact mu_self _ _ _
  refine lv_aload_n hx hb dX7_init_71 rfl (lv_at hl 0 rfl) ?_
  refine n_iconst hx hb 0 dX7_init_72 (by decide) ?_
  refine m_put (ref := "CardPort") (C := RX7) (T := TX7) (N := 8) (ci := 8) X Y htX7_init_wsX701 tyX7 tyX7_ok nmX7 hh118 rfl 7 (by decide) kwX7_init_18 rfl rfl (v := .int (nI 0)) rfl rfl (Nat.le_of_ble_eq_true rfl) dX7_init_73 (fun H locs Y => ?_)
  obtain ⟨M119, eM119⟩ : ∃ zz9 : Mp, zz9 = mu M110 h0 (.inr (8, [.ref q1, .ref q8, .ref q17, .ref q28, .ref q41, .ref q64, .ref q90, .int (nI 0)])) := ⟨_, rfl⟩
  replace Y : mY D A M119 s H locs := by rw [eM119]; exact Y
  have hh120 : M119 q1 = some (qrow (kc 3) 4 (fun _ => none)) := by rw [eM119, mu_ne _ _ (Ne.symm (ne_fresh hm fq1))]; exact hh111
  have hh121 : M119 q8 = some (qrow (kc 4) 3 (fun _ => none)) := by rw [eM119, mu_ne _ _ (Ne.symm (ne_fresh hh7 fq8))]; exact hh112
  have hh122 : M119 q17 = some (qrow (kc 5) 8 (fun _ => none)) := by rw [eM119, mu_ne _ _ (Ne.symm (ne_fresh hh16 fq17))]; exact hh113
  have hh123 : M119 q28 = some (qrow (kc 6) 12 (fun _ => none)) := by rw [eM119, mu_ne _ _ (Ne.symm (ne_fresh hh27 fq28))]; exact hh114
  have hh124 : M119 q41 = some (.inr (0, [.int (nI 0), .ref e0.1, .int 0])) := by rw [eM119, mu_ne _ _ (Ne.symm (ne_fresh hh40 fq41))]; exact hh115
  have hh125 : M119 q64 = some (.inr (0, [.int (nI 0), .ref e0.1, .int 0])) := by rw [eM119, mu_ne _ _ (Ne.symm (ne_fresh hh63 fq64))]; exact hh116
  have hh126 : M119 q90 = some (.inr (0, [.int (nI 0), .ref e0.1, .int 0])) := by rw [eM119, mu_ne _ _ (Ne.symm (ne_fresh hh89 fq90))]; exact hh117
  have hh127 : M119 h0 = some (.inr (8, [.ref q1, .ref q8, .ref q17, .ref q28, .ref q41, .ref q64, .ref q90, .int (nI 0)])) := by rw [eM119]; exact mu_self _ _ _
  refine n_iconst hx hb 0 dX7_init_76 (by decide) ?_
  refine lv_istore_n (lv' := [(1, .int (nI 0)), (0, .ref h0)]) hx hb dX7_init_77 rfl hl (by decide) rfl (fun ls hl => ?_)
  have hKP : KP M M h0 := KP.rf M h0
  have hn128 : M q1 = none := hKP.none fq1 (ne_fresh hm fq1)
  replace hKP : KP M M2 h0 := by rw [eM2]; exact hKP.new fq1
  replace hKP : KP M M5 h0 := by rw [eM5]; exact hKP.put
  have hn129 : M q8 = none := hKP.none fq8 (ne_fresh hh7 fq8)
  replace hKP : KP M M9 h0 := by rw [eM9]; exact hKP.new fq8
  replace hKP : KP M M13 h0 := by rw [eM13]; exact hKP.put
  have hn130 : M q17 = none := hKP.none fq17 (ne_fresh hh16 fq17)
  replace hKP : KP M M18 h0 := by rw [eM18]; exact hKP.new fq17
  replace hKP : KP M M23 h0 := by rw [eM23]; exact hKP.put
  have hn131 : M q28 = none := hKP.none fq28 (ne_fresh hh27 fq28)
  replace hKP : KP M M29 h0 := by rw [eM29]; exact hKP.new fq28
  replace hKP : KP M M35 h0 := by rw [eM35]; exact hKP.put
  have hn132 : M q41 = none := hKP.none fq41 (ne_fresh hh40 fq41)
  replace hKP : KP M M49 h0 := by rw [p50q]; exact hKP.new fq41
  replace hKP : KP M M57 h0 := by rw [eM57]; exact hKP.put
  have hn133 : M q64 = none := hKP.none fq64 (ne_fresh hh63 fq64)
  replace hKP : KP M M73 h0 := by rw [p74q]; exact hKP.new fq64
  replace hKP : KP M M82 h0 := by rw [eM82]; exact hKP.put
  have hn134 : M q90 = none := hKP.none fq90 (ne_fresh hh89 fq90)
  replace hKP : KP M M100 h0 := by rw [p101q]; exact hKP.new fq90
  replace hKP : KP M M110 h0 := by rw [eM110]; exact hKP.put
  replace hKP : KP M M119 h0 := by rw [eM119]; exact hKP.put
  obtain ⟨ad, had⟩ : ∃ ad : Nat → Nat → Nat, ad = fun t i => if t = 7 then h0 else if t = 8 then (if i = 0 then q1 else if i = 1 then q8 else if i = 2 then q17 else q28) else (if i = 0 then q41 else if i = 1 then q64 else q90) := ⟨_, rfl⟩
  have nq01 : h0 ≠ q1 := (ne_fresh hm fq1)
  have nq02 : h0 ≠ q8 := (ne_fresh hh7 fq8)
  have nq03 : h0 ≠ q17 := (ne_fresh hh16 fq17)
  have nq04 : h0 ≠ q28 := (ne_fresh hh27 fq28)
  have nq05 : h0 ≠ q41 := (ne_fresh hh40 fq41)
  have nq06 : h0 ≠ q64 := (ne_fresh hh63 fq64)
  have nq07 : h0 ≠ q90 := (ne_fresh hh89 fq90)
  have nq12 : q1 ≠ q8 := (ne_fresh hh6 fq8)
  have nq13 : q1 ≠ q17 := (ne_fresh hh14 fq17)
  have nq14 : q1 ≠ q28 := (ne_fresh hh24 fq28)
  have nq15 : q1 ≠ q41 := (ne_fresh hh36 fq41)
  have nq16 : q1 ≠ q64 := (ne_fresh hh58 fq64)
  have nq17 : q1 ≠ q90 := (ne_fresh hh83 fq90)
  have nq23 : q8 ≠ q17 := (ne_fresh hh15 fq17)
  have nq24 : q8 ≠ q28 := (ne_fresh hh25 fq28)
  have nq25 : q8 ≠ q41 := (ne_fresh hh37 fq41)
  have nq26 : q8 ≠ q64 := (ne_fresh hh59 fq64)
  have nq27 : q8 ≠ q90 := (ne_fresh hh84 fq90)
  have nq34 : q17 ≠ q28 := (ne_fresh hh26 fq28)
  have nq35 : q17 ≠ q41 := (ne_fresh hh38 fq41)
  have nq36 : q17 ≠ q64 := (ne_fresh hh60 fq64)
  have nq37 : q17 ≠ q90 := (ne_fresh hh85 fq90)
  have nq45 : q28 ≠ q41 := (ne_fresh hh39 fq41)
  have nq46 : q28 ≠ q64 := (ne_fresh hh61 fq64)
  have nq47 : q28 ≠ q90 := (ne_fresh hh86 fq90)
  have nq56 : q41 ≠ q64 := (ne_fresh hh62 fq64)
  have nq57 : q41 ≠ q90 := (ne_fresh hh87 fq90)
  have nq67 : q64 ≠ q90 := (ne_fresh hh88 fq90)
  have hPI : PI kc e0 (fS 0 0) ad M119 := by
    have hz : ∀ k, fS 0 0 k = 0 := fun k => by unfold fS; simp
    refine ⟨fun t i h => ?_, fun t i t2 i2 h h2 he => ?_⟩
    · match t with
      | 0 => exact absurd (show i < fS 0 0 _ from h) (by rw [hz]; omega)
      | 2 => exact absurd (show i < fS 0 0 _ from h) (by rw [hz]; omega)
      | 4 => exact absurd (show i < fS 0 0 _ from h) (by rw [hz]; omega)
      | 6 => exact absurd (show i < fS 0 0 _ from h) (by rw [hz]; omega)
      | 1 => exact absurd h id
      | 3 => exact absurd h id
      | 5 => exact absurd h id
      | 7 => have h : i = 0 := h; subst h; subst had; exact hh127
      | 8 =>
        have h : i < 4 := h
        rcases (show i = 0 ∨ i = 1 ∨ i = 2 ∨ i = 3 by omega) with rfl | rfl | rfl | rfl
        · have e : ad 8 0 = q1 := by rw [had]; rfl
          simp only [icell, hz, row0]; rw [e]; exact hh120
        · have e : ad 8 1 = q8 := by rw [had]; rfl
          simp only [icell, hz, row0]; rw [e]; exact hh121
        · have e : ad 8 2 = q17 := by rw [had]; rfl
          simp only [icell, hz, row0]; rw [e]; exact hh122
        · have e : ad 8 3 = q28 := by rw [had]; rfl
          simp only [icell, hz, row0]; rw [e]; exact hh123
      | 9 =>
        have h : i < 3 := h
        rcases (show i = 0 ∨ i = 1 ∨ i = 2 by omega) with rfl | rfl | rfl
        · have e : ad 9 0 = q41 := by rw [had]; rfl
          rw [e]; exact hh124
        · have e : ad 9 1 = q64 := by rw [had]; rfl
          rw [e]; exact hh125
        · have e : ad 9 2 = q90 := by rw [had]; rfl
          rw [e]; exact hh126
      | t + 10 => exact absurd h id
    · have hx : ∀ t i, inI (fS 0 0) t i → (t = 7 ∧ i = 0) ∨ (t = 8 ∧ (i = 0 ∨ i = 1 ∨ i = 2 ∨ i = 3)) ∨ (t = 9 ∧ (i = 0 ∨ i = 1 ∨ i = 2)) := by
        intro t i h
        match t with
        | 0 => exact absurd (show i < fS 0 0 _ from h) (by rw [hz]; omega)
        | 2 => exact absurd (show i < fS 0 0 _ from h) (by rw [hz]; omega)
        | 4 => exact absurd (show i < fS 0 0 _ from h) (by rw [hz]; omega)
        | 6 => exact absurd (show i < fS 0 0 _ from h) (by rw [hz]; omega)
        | 1 => exact absurd h id
        | 3 => exact absurd h id
        | 5 => exact absurd h id
        | 7 => exact Or.inl ⟨rfl, h⟩
        | 8 => have h : i < 4 := h; exact Or.inr (Or.inl ⟨rfl, by omega⟩)
        | 9 => have h : i < 3 := h; exact Or.inr (Or.inr ⟨rfl, by omega⟩)
        | t + 10 => exact absurd h id
      rw [had] at he
      rcases hx t i h with ⟨rfl, rfl⟩ | ⟨rfl, rfl | rfl | rfl | rfl⟩ | ⟨rfl, rfl | rfl | rfl⟩ <;> rcases hx t2 i2 h2 with ⟨rfl, rfl⟩ | ⟨rfl, rfl | rfl | rfl | rfl⟩ | ⟨rfl, rfl | rfl | rfl⟩ <;> first | exact ⟨rfl, rfl⟩ | (exfalso; simp [nq01, Ne.symm nq01, nq02, Ne.symm nq02, nq03, Ne.symm nq03, nq04, Ne.symm nq04, nq05, Ne.symm nq05, nq06, Ne.symm nq06, nq07, Ne.symm nq07, nq12, Ne.symm nq12, nq13, Ne.symm nq13, nq14, Ne.symm nq14, nq15, Ne.symm nq15, nq16, Ne.symm nq16, nq17, Ne.symm nq17, nq23, Ne.symm nq23, nq24, Ne.symm nq24, nq25, Ne.symm nq25, nq26, Ne.symm nq26, nq27, Ne.symm nq27, nq34, Ne.symm nq34, nq35, Ne.symm nq35, nq36, Ne.symm nq36, nq37, Ne.symm nq37, nq45, Ne.symm nq45, nq46, Ne.symm nq46, nq47, Ne.symm nq47, nq56, Ne.symm nq56, nq57, Ne.symm nq57, nq67, Ne.symm nq67] at he)
  have had7 : ad 7 0 = h0 := by rw [had]; rfl
  have hfr : ∀ i, i < 4 → M (ad 8 i) = none := by
    intro i h
    rcases (show i = 0 ∨ i = 1 ∨ i = 2 ∨ i = 3 by omega) with rfl | rfl | rfl | rfl
    · have e : ad 8 0 = q1 := by rw [had]; rfl
      rw [e]; exact hn128
    · have e : ad 8 1 = q8 := by rw [had]; rfl
      rw [e]; exact hn129
    · have e : ad 8 2 = q17 := by rw [had]; rfl
      rw [e]; exact hn130
    · have e : ad 8 3 = q28 := by rw [had]; rfl
      rw [e]; exact hn131
  replace hl : lv_has ls 2 [(1, .int (nI 0)), (0, .ref (ad 7 0))] := by
    rw [had7]; exact hl
  clear had nq01 nq02 nq03 nq04 nq05 nq06 nq07 nq12 nq13 nq14 nq15 nq16 nq17 nq23 nq24 nq25 nq26 nq27 nq34 nq35 nq36 nq37 nq45 nq46 nq47 nq56 nq57 nq67
  clear hh120 hh121 hh122 hh123 hh124 hh125 hh126 hh127
  obtain ⟨ad135, hAD⟩ : ∃ zz : Nat → Nat → Nat, zz = ad := ⟨_, rfl⟩
  rw [← hAD] at hl hPI had7 hfr
  clear hAD
  refine wgen (P := fun x y => W p l e _ s m _ below meth c H locs x y _ _) (fun ce136 sl137 hce136 hsl137 => ?_)
  obtain ⟨k, hk0⟩ : ∃ k : Nat, k = 0 := ⟨_, rfl⟩
  replace hce136 : ce136 ≤ 7 + k := by omega
  replace hsl137 : sl137 ≤ 36 + 2 * k := by omega
  replace hPI : PI kc e0 (fS 0 k) ad135 M119 := by rw [hk0]; exact hPI
  replace hl : lv_has ls 2 [(1, .int (nI k)), (0, .ref (ad135 7 0))] := by
    rw [hk0]; exact hl
  replace hl : lv_has ls 2 [(0, .ref (ad135 7 0)), (1, .int (nI k))] := lv_sub hl [1, 0] rfl
  have hk : k ≤ 4 := by omega
  clear hk0
  obtain ⟨MM138, hMM⟩ : ∃ zz : Mp, zz = M119 := ⟨_, rfl⟩
  rw [← hMM] at Y hPI hKP
  clear hMM
  obtain ⟨fu, hfu⟩ : ∃ fu : Nat, fu = 4 - k := ⟨_, rfl⟩
  induction fu generalizing k MM138 ad135 ce136 sl137 H locs ls with
  | zero =>
    obtain rfl : k = 4 := by omega
    replace hPI : PI kc e0 (fS 1 0) ad135 MM138 := by rw [← fS_e]; exact hPI
    refine lv_iload_n hx hb dX7_init_78 rfl (lv_at hl 1 rfl) ?_
    refine n_iconst hx hb 4 dX7_init_79 (by decide) ?_
    refine n_icmp_ge hx hb 102 (by omega) (by omega) dX7_init_80 (by decide) (fun _ => ?_) (fun zq => absurd zq (by omega))
    refine n_iconst hx hb 0 dX7_init_102 (by decide) ?_
    refine lv_istore_n (lv' := [(1, .int (nI 0)), (0, .ref (ad135 7 0))]) hx hb dX7_init_103 rfl hl (by decide) rfl (fun ls hl => ?_)
    obtain ⟨ad139, hAD⟩ : ∃ zz : Nat → Nat → Nat, zz = ad135 := ⟨_, rfl⟩
    rw [← hAD] at hl hPI had7 hfr
    clear hAD
    refine wgen (P := fun x y => W p l e _ s m _ below meth c H locs x y _ _) (fun ce140 sl141 hce140 hsl141 => ?_)
    obtain ⟨k, hk0⟩ : ∃ k : Nat, k = 0 := ⟨_, rfl⟩
    replace hce140 : ce140 ≤ 11 + k := by omega
    replace hsl141 : sl141 ≤ 44 + 3 * k := by omega
    replace hPI : PI kc e0 (fS 1 k) ad139 MM138 := by rw [hk0]; exact hPI
    replace hl : lv_has ls 2 [(1, .int (nI k)), (0, .ref (ad139 7 0))] := by
      rw [hk0]; exact hl
    replace hl : lv_has ls 2 [(0, .ref (ad139 7 0)), (1, .int (nI k))] := lv_sub hl [1, 0] rfl
    have hk : k ≤ 3 := by omega
    clear hk0 hfu
    obtain ⟨MM142, hMM⟩ : ∃ zz : Mp, zz = MM138 := ⟨_, rfl⟩
    rw [← hMM] at Y hPI hKP
    clear hMM
    obtain ⟨fu, hfu⟩ : ∃ fu : Nat, fu = 3 - k := ⟨_, rfl⟩
    induction fu generalizing k MM142 ad139 ce140 sl141 H locs ls with
    | zero =>
      obtain rfl : k = 3 := by omega
      replace hPI : PI kc e0 (fS 2 0) ad139 MM142 := by rw [← fS_e]; exact hPI
      refine lv_iload_n hx hb dX7_init_104 rfl (lv_at hl 1 rfl) ?_
      refine n_iconst hx hb 3 dX7_init_105 (by decide) ?_
      refine n_icmp_ge hx hb 129 (by omega) (by omega) dX7_init_106 (by decide) (fun _ => ?_) (fun zq => absurd zq (by omega))
      refine n_iconst hx hb 0 dX7_init_129 (by decide) ?_
      refine lv_istore_n (lv' := [(1, .int (nI 0)), (0, .ref (ad139 7 0))]) hx hb dX7_init_130 rfl hl (by decide) rfl (fun ls hl => ?_)
      obtain ⟨ad143, hAD⟩ : ∃ zz : Nat → Nat → Nat, zz = ad139 := ⟨_, rfl⟩
      rw [← hAD] at hl hPI had7 hfr
      clear hAD
      refine wgen (P := fun x y => W p l e _ s m _ below meth c H locs x y _ _) (fun ce144 sl145 hce144 hsl145 => ?_)
      obtain ⟨k, hk0⟩ : ∃ k : Nat, k = 0 := ⟨_, rfl⟩
      replace hce144 : ce144 ≤ 14 + k := by omega
      replace hsl145 : sl145 ≤ 53 + 3 * k := by omega
      replace hPI : PI kc e0 (fS 2 k) ad143 MM142 := by rw [hk0]; exact hPI
      replace hl : lv_has ls 2 [(1, .int (nI k)), (0, .ref (ad143 7 0))] := by
        rw [hk0]; exact hl
      replace hl : lv_has ls 2 [(0, .ref (ad143 7 0)), (1, .int (nI k))] := lv_sub hl [1, 0] rfl
      have hk : k ≤ 8 := by omega
      clear hk0 hfu
      obtain ⟨MM146, hMM⟩ : ∃ zz : Mp, zz = MM142 := ⟨_, rfl⟩
      rw [← hMM] at Y hPI hKP
      clear hMM
      obtain ⟨fu, hfu⟩ : ∃ fu : Nat, fu = 8 - k := ⟨_, rfl⟩
      induction fu generalizing k MM146 ad143 ce144 sl145 H locs ls with
      | zero =>
        obtain rfl : k = 8 := by omega
        replace hPI : PI kc e0 (fS 3 0) ad143 MM146 := by rw [← fS_e]; exact hPI
        refine lv_iload_n hx hb dX7_init_131 rfl (lv_at hl 1 rfl) ?_
        refine n_bipush hx hb 8 dX7_init_132 (by decide) ?_
        refine n_icmp_ge hx hb 171 (by omega) (by omega) dX7_init_134 (by decide) (fun _ => ?_) (fun zq => absurd zq (by omega))
        refine n_iconst hx hb 0 dX7_init_171 (by decide) ?_
        refine lv_istore_n (lv' := [(1, .int (nI 0)), (0, .ref (ad143 7 0))]) hx hb dX7_init_172 rfl hl (by decide) rfl (fun ls hl => ?_)
        obtain ⟨ad147, hAD⟩ : ∃ zz : Nat → Nat → Nat, zz = ad143 := ⟨_, rfl⟩
        rw [← hAD] at hl hPI had7 hfr
        clear hAD
        refine wgen (P := fun x y => W p l e _ s m _ below meth c H locs x y _ _) (fun ce148 sl149 hce148 hsl149 => ?_)
        obtain ⟨k, hk0⟩ : ∃ k : Nat, k = 0 := ⟨_, rfl⟩
        replace hce148 : ce148 ≤ 22 + k := by omega
        replace hsl149 : sl149 ≤ 77 + 2 * k := by omega
        replace hPI : PI kc e0 (fS 3 k) ad147 MM146 := by rw [hk0]; exact hPI
        replace hl : lv_has ls 2 [(1, .int (nI k)), (0, .ref (ad147 7 0))] := by
          rw [hk0]; exact hl
        replace hl : lv_has ls 2 [(0, .ref (ad147 7 0)), (1, .int (nI k))] := lv_sub hl [1, 0] rfl
        have hk : k ≤ 12 := by omega
        clear hk0 hfu
        obtain ⟨MM150, hMM⟩ : ∃ zz : Mp, zz = MM146 := ⟨_, rfl⟩
        rw [← hMM] at Y hPI hKP
        clear hMM
        obtain ⟨fu, hfu⟩ : ∃ fu : Nat, fu = 12 - k := ⟨_, rfl⟩
        induction fu generalizing k MM150 ad147 ce148 sl149 H locs ls with
        | zero =>
          obtain rfl : k = 12 := by omega
          refine lv_iload_n hx hb dX7_init_173 rfl (lv_at hl 1 rfl) ?_
          refine n_bipush hx hb 12 dX7_init_174 (by decide) ?_
          refine n_icmp_ge hx hb 207 (by omega) (by omega) dX7_init_176 (by decide) (fun _ => ?_) (fun zq => absurd zq (by omega))
          refine m_vret X Y hr hlocks (by show _ ≤ 100; omega) (by show _ ≤ 700; omega) ?_ dX7_init_207
          exact ⟨ad147, hPI, had7, hKP⟩
        | succ fu ih =>
          have h7 := hPI.1 7 0 rfl
          have h7 : MM150 (ad147 7 0) = some (.inr (8, [.ref (ad147 8 0), .ref (ad147 8 1), .ref (ad147 8 2), .ref (ad147 8 3), .ref (ad147 9 0), .ref (ad147 9 1), .ref (ad147 9 2), .int (nI 0)])) := h7
          have har3 : MM150 (ad147 8 3) = some (qrow (kc 6) 12 (fun j => if j < k then some (ad147 2 j) else none)) := by have z := hPI.1 8 3 (show 3 < 4 by decide); simp only [icell, fS_r] at z; exact z
          have har0 : MM150 (ad147 8 0) = some (qrow (kc 3) 4 (fun j => if j < 4 then some (ad147 0 j) else none)) := hPI.1 8 0 (show 0 < 4 by decide)
          refine lv_iload_n hx hb dX7_init_173 rfl (lv_at hl 1 rfl) ?_
          refine n_bipush hx hb 12 dX7_init_174 (by decide) ?_
          refine n_icmp_ge hx hb 207 (by omega) (by omega) dX7_init_176 (by decide) (fun zq => absurd zq (by omega)) (fun _ => ?_)
          refine lv_aload_n hx hb dX7_init_179 rfl (lv_at hl 0 rfl) ?_
          refine m_get (ref := "CardPort") (C := RX7) (T := TX7) (N := 8) (ci := 8) X Y htX7_init_wsX701 h7 rfl 3 (by decide) kwX7_init_11 rfl (v := .ref (ad147 8 3)) rfl dX7_init_180 ?_
          refine lv_iload_n hx hb dX7_init_183 rfl (lv_at hl 1 rfl) ?_
          refine m_new (C := RX2) (T := TX2) (N := 2) (ci := 3) X Y hA htX7_init_wsX206 tyX2 tyX2_ok kwX7_init_10 kwX7_init_25 kwX7_init_26 rfl (fs := [.int 0, .null]) (fun j hj => by rcases (show j = 0 ∨ j = 1 by omega) with rfl | rfl <;> rfl) (by show _ ≤ 100; omega) (by show _ ≤ 700; omega) dX7_init_184 (fun q151 H fq151 Y => ?_)
          obtain ⟨M152, eM152⟩ : ∃ zz9 : Mp, zz9 = mu MM150 q151 (.inr (3, [.int 0, .null])) := ⟨_, rfl⟩
          replace Y : mY D A M152 s H locs := by rw [eM152]; exact Y
          have hh153 : M152 (ad147 7 0) = some (.inr (8, [.ref (ad147 8 0), .ref (ad147 8 1), .ref (ad147 8 2), .ref (ad147 8 3), .ref (ad147 9 0), .ref (ad147 9 1), .ref (ad147 9 2), .int (nI 0)])) := by rw [eM152, mu_ne _ _ (ne_fresh h7 fq151)]; exact h7
          have hh154 : M152 (ad147 8 3) = some (qrow (kc 6) 12 (fun j => if j < k then some (ad147 2 j) else none)) := by rw [eM152, mu_ne _ _ (ne_fresh har3 fq151)]; exact har3
          have hh155 : M152 (ad147 8 0) = some (qrow (kc 3) 4 (fun j => if j < 4 then some (ad147 0 j) else none)) := by rw [eM152, mu_ne _ _ (ne_fresh har0 fq151)]; exact har0
          have hh156 : M152 q151 = some (.inr (3, [.int 0, .null])) := by rw [eM152]; exact mu_self _ _ _
          refine lv_dup hx hb dX7_init_187 rfl ?_
          refine lv_iload_n hx hb dX7_init_188 rfl (lv_at hl 1 rfl) ?_
          refine lv_aload_n hx hb dX7_init_189 rfl (lv_at hl 0 rfl) ?_
          refine m_get (ref := "CardPort") (C := RX7) (T := TX7) (N := 8) (ci := 8) X Y htX7_init_wsX701 hh153 rfl 0 (by decide) kwX7_init_5 rfl (v := .ref (ad147 8 0)) rfl dX7_init_190 ?_
          refine lv_iload_n hx hb dX7_init_193 rfl (lv_at hl 1 rfl) ?_
          refine n_iconst hx hb 3 dX7_init_194 (by decide) ?_
          refine n_idiv hx hb (by omega) (by omega) (by omega) dX7_init_195 ?_
          refine m_aald X Y 3 (C := RX0) rfl hh155 (vp_in_nI (show k / 3 < 4 by omega) (by decide)) (v := ad147 0 (k / 3)) (by rw [nI_cl (by omega)]; exact if_pos (by omega)) dX7_init_196 ?_
          refine m_Iv (As := [.int (nI k), .ref (ad147 0 (k / 3))]) (rest := [.ref q151, .int (nI k), .ref (ad147 8 3)]) X Y hA hcx (c_X2_init l D kc A e0 M152 q151 k (ad147 0 (k / 3)) 0 hh156) (cwI 2 X.1.2.2.2.2 gX7_init_X2_init rfl rfl rfl (X.1.2.2.2.2 _ kwX7_init_26) (X.1.2.2.2.2 _ kwX7_init_61) (X.1.2.2.2.2 _ kwX7_init_62) rfl (by decide +kernel) ⟨Nat.le_of_ble_eq_true rfl, Nat.le_of_ble_eq_true rfl⟩) rfl rfl hl.1 (Nat.le_of_ble_eq_true rfl) dX7_init_197 ⟨by show _ ≤ 100; omega, by show _ ≤ 700; omega⟩ (fun M157 H locs p158 Y => ?_)
          have hh159 : M157 (ad147 7 0) = some (.inr (8, [.ref (ad147 8 0), .ref (ad147 8 1), .ref (ad147 8 2), .ref (ad147 8 3), .ref (ad147 9 0), .ref (ad147 9 1), .ref (ad147 9 2), .int (nI 0)])) := by rw [p158, mu_ne _ _ (ne_fresh h7 fq151)]; exact hh153
          have hh160 : M157 (ad147 8 3) = some (qrow (kc 6) 12 (fun j => if j < k then some (ad147 2 j) else none)) := by rw [p158, mu_ne _ _ (ne_fresh har3 fq151)]; exact hh154
          have hh161 : M157 (ad147 8 0) = some (qrow (kc 3) 4 (fun j => if j < 4 then some (ad147 0 j) else none)) := by rw [p158, mu_ne _ _ (ne_fresh har0 fq151)]; exact hh155
          have hh162 : M157 q151 = some (.inr (3, [.int (nI k), .ref (ad147 0 (k / 3))])) := by rw [p158]; exact mu_self _ _ _
          have p158q : M157 = mu MM150 q151 (.inr (3, [.int (nI k), .ref (ad147 0 (k / 3))])) := by rw [p158, eM152, mu_mu]
          refine m_aast X Y 6 (r := (RX2, TX2, 2)) rfl hh160 hh162 rfl (vp_in_nI (show k < 12 by omega) (by decide)) dX7_init_200 (fun H locs Y => ?_)
          obtain ⟨M163, eM2⟩ : ∃ zz : Mp, zz = mu M157 (ad147 8 3) (qrow (kc 6) 12 (va_up (fun j => if j < k then some (ad147 2 j) else none) k (some q151))) := ⟨_, rfl⟩
          rw [nI_cl (show k < 2147483648 by omega)] at Y
          replace Y : mY D A M163 s H locs := by rw [eM2]; exact Y
          obtain ⟨ad2, hag, hPI2, hkp2⟩ := hPI.add (r := 3) (q := q151) (by decide) (by rw [fS_r]; exact (show k < 12 by omega)) fq151 (fun ad9 ha9 => by rw [fS_r]; show Sum.inr (3, [Value.int (nI k), .ref (ad9 0 (k / 3))]) = _; rw [ha9 0 _ (fun z => absurd z.1 (by decide))]) ⟨fun z => by first | exact absurd z (by decide) | exact ⟨by simp [fS], by simp [fS]⟩, fun z => by first | exact absurd z (by decide) | simp [fS]⟩ p158q (show M163 = _ by rw [fS_r]; exact eM2)
          rw [fS_s] at hPI2
          have hKP2 : KP M M163 h0 := fun x e hx hn => hkp2 x e (hKP x e hx hn) (fun z => by have z2 := hfr 3 (by decide); rw [← z, hx] at z2; cases z2)
          have e7 : ad2 7 0 = ad147 7 0 := hag 7 0 (fun z => absurd z.1 (by decide))
          have hfr2 : ∀ i, i < 4 → M (ad2 8 i) = none := fun i hi => by rw [hag 8 i (fun z => absurd z.1 (by decide))]; exact hfr i hi
          refine lv_iinc (v := (nI (k + 1))) (lv' := [(1, .int (nI (k + 1))), (0, .ref (ad147 7 0))]) hx hb dX7_init_201 hl (k := 1) rfl (nI_add _ 1) (by decide) rfl (fun ls hl => ?_)
          refine lv_goto (tgt := 173) hx hb dX7_init_204 (by decide) ?_
          exact ih (k := k + 1) (MM150 := M163) (ad147 := ad2) (Y := Y) (hl := by rw [e7]; exact (lv_sub hl [1, 0] rfl)) (hfu := by omega) (hk := by omega) (hPI := hPI2) (hKP := hKP2) (had7 := e7.trans had7) (hfr := hfr2) (hce148 := by omega) (hsl149 := by omega)
      | succ fu ih =>
        have h7 := hPI.1 7 0 rfl
        have h7 : MM146 (ad143 7 0) = some (.inr (8, [.ref (ad143 8 0), .ref (ad143 8 1), .ref (ad143 8 2), .ref (ad143 8 3), .ref (ad143 9 0), .ref (ad143 9 1), .ref (ad143 9 2), .int (nI 0)])) := h7
        have har2 : MM146 (ad143 8 2) = some (qrow (kc 5) 8 (fun j => if j < k then some (ad143 6 j) else none)) := by have z := hPI.1 8 2 (show 2 < 4 by decide); simp only [icell, fS_r] at z; exact z
        have har0 : MM146 (ad143 8 0) = some (qrow (kc 3) 4 (fun j => if j < 4 then some (ad143 0 j) else none)) := hPI.1 8 0 (show 0 < 4 by decide)
        have har1 : MM146 (ad143 8 1) = some (qrow (kc 4) 3 (fun j => if j < 3 then some (ad143 4 j) else none)) := hPI.1 8 1 (show 1 < 4 by decide)
        refine lv_iload_n hx hb dX7_init_131 rfl (lv_at hl 1 rfl) ?_
        refine n_bipush hx hb 8 dX7_init_132 (by decide) ?_
        refine n_icmp_ge hx hb 171 (by omega) (by omega) dX7_init_134 (by decide) (fun zq => absurd zq (by omega)) (fun _ => ?_)
        refine lv_aload_n hx hb dX7_init_137 rfl (lv_at hl 0 rfl) ?_
        refine m_get (ref := "CardPort") (C := RX7) (T := TX7) (N := 8) (ci := 8) X Y htX7_init_wsX701 h7 rfl 2 (by decide) kwX7_init_9 rfl (v := .ref (ad143 8 2)) rfl dX7_init_138 ?_
        refine lv_iload_n hx hb dX7_init_141 rfl (lv_at hl 1 rfl) ?_
        refine m_new (C := RX6) (T := TX6) (N := 3) (ci := 7) X Y hA htX7_init_wsX605 tyX6 tyX6_ok kwX7_init_8 kwX7_init_23 kwX7_init_24 rfl (fs := [.int 0, .null, .null]) (fun j hj => by rcases (show j = 0 ∨ j = 1 ∨ j = 2 by omega) with rfl | rfl | rfl <;> rfl) (by show _ ≤ 100; omega) (by show _ ≤ 700; omega) dX7_init_142 (fun q164 H fq164 Y => ?_)
        obtain ⟨M165, eM165⟩ : ∃ zz9 : Mp, zz9 = mu MM146 q164 (.inr (7, [.int 0, .null, .null])) := ⟨_, rfl⟩
        replace Y : mY D A M165 s H locs := by rw [eM165]; exact Y
        have hh166 : M165 (ad143 7 0) = some (.inr (8, [.ref (ad143 8 0), .ref (ad143 8 1), .ref (ad143 8 2), .ref (ad143 8 3), .ref (ad143 9 0), .ref (ad143 9 1), .ref (ad143 9 2), .int (nI 0)])) := by rw [eM165, mu_ne _ _ (ne_fresh h7 fq164)]; exact h7
        have hh167 : M165 (ad143 8 2) = some (qrow (kc 5) 8 (fun j => if j < k then some (ad143 6 j) else none)) := by rw [eM165, mu_ne _ _ (ne_fresh har2 fq164)]; exact har2
        have hh168 : M165 (ad143 8 0) = some (qrow (kc 3) 4 (fun j => if j < 4 then some (ad143 0 j) else none)) := by rw [eM165, mu_ne _ _ (ne_fresh har0 fq164)]; exact har0
        have hh169 : M165 (ad143 8 1) = some (qrow (kc 4) 3 (fun j => if j < 3 then some (ad143 4 j) else none)) := by rw [eM165, mu_ne _ _ (ne_fresh har1 fq164)]; exact har1
        have hh170 : M165 q164 = some (.inr (7, [.int 0, .null, .null])) := by rw [eM165]; exact mu_self _ _ _
        refine lv_dup hx hb dX7_init_145 rfl ?_
        refine lv_iload_n hx hb dX7_init_146 rfl (lv_at hl 1 rfl) ?_
        refine lv_aload_n hx hb dX7_init_147 rfl (lv_at hl 0 rfl) ?_
        refine m_get (ref := "CardPort") (C := RX7) (T := TX7) (N := 8) (ci := 8) X Y htX7_init_wsX701 hh166 rfl 0 (by decide) kwX7_init_5 rfl (v := .ref (ad143 8 0)) rfl dX7_init_148 ?_
        refine lv_iload_n hx hb dX7_init_151 rfl (lv_at hl 1 rfl) ?_
        refine n_iconst hx hb 4 dX7_init_152 (by decide) ?_
        refine n_irem hx hb (by omega) (by omega) (by omega) dX7_init_153 ?_
        refine m_aald X Y 3 (C := RX0) rfl hh168 (vp_in_nI (show k % 4 < 4 by omega) (by decide)) (v := ad143 0 (k % 4)) (by rw [nI_cl (by omega)]; exact if_pos (Nat.mod_lt _ (by decide))) dX7_init_154 ?_
        refine lv_aload_n hx hb dX7_init_155 rfl (lv_at hl 0 rfl) ?_
        refine m_get (ref := "CardPort") (C := RX7) (T := TX7) (N := 8) (ci := 8) X Y htX7_init_wsX701 hh166 rfl 1 (by decide) kwX7_init_7 rfl (v := .ref (ad143 8 1)) rfl dX7_init_156 ?_
        refine n_iconst hx hb 0 dX7_init_159 (by decide) ?_
        refine m_aald X Y 4 (C := RX4) rfl hh169 (vp_in_nI (show 0 < 3 by decide) (by decide)) (v := ad143 4 0) (by rw [nI_cl (by decide)]; rfl) dX7_init_160 ?_
        refine m_Iv (As := [.int (nI k), .ref (ad143 0 (k % 4)), .ref (ad143 4 0)]) (rest := [.ref q164, .int (nI k), .ref (ad143 8 2)]) X Y hA hcx (c_X6_init l D kc A e0 M165 q164 k (ad143 0 (k % 4)) (ad143 4 0) 0 hh170) (cwI 3 X.1.2.2.2.2 gX7_init_X6_init rfl rfl rfl (X.1.2.2.2.2 _ kwX7_init_24) (X.1.2.2.2.2 _ kwX7_init_54) (X.1.2.2.2.2 _ kwX7_init_55) rfl (by decide +kernel) ⟨Nat.le_of_ble_eq_true rfl, Nat.le_of_ble_eq_true rfl⟩) rfl rfl hl.1 (Nat.le_of_ble_eq_true rfl) dX7_init_161 ⟨by show _ ≤ 100; omega, by show _ ≤ 700; omega⟩ (fun M171 H locs p172 Y => ?_)
        have hh173 : M171 (ad143 7 0) = some (.inr (8, [.ref (ad143 8 0), .ref (ad143 8 1), .ref (ad143 8 2), .ref (ad143 8 3), .ref (ad143 9 0), .ref (ad143 9 1), .ref (ad143 9 2), .int (nI 0)])) := by rw [p172, mu_ne _ _ (ne_fresh h7 fq164)]; exact hh166
        have hh174 : M171 (ad143 8 2) = some (qrow (kc 5) 8 (fun j => if j < k then some (ad143 6 j) else none)) := by rw [p172, mu_ne _ _ (ne_fresh har2 fq164)]; exact hh167
        have hh175 : M171 (ad143 8 0) = some (qrow (kc 3) 4 (fun j => if j < 4 then some (ad143 0 j) else none)) := by rw [p172, mu_ne _ _ (ne_fresh har0 fq164)]; exact hh168
        have hh176 : M171 (ad143 8 1) = some (qrow (kc 4) 3 (fun j => if j < 3 then some (ad143 4 j) else none)) := by rw [p172, mu_ne _ _ (ne_fresh har1 fq164)]; exact hh169
        have hh177 : M171 q164 = some (.inr (7, [.int (nI k), .ref (ad143 0 (k % 4)), .ref (ad143 4 0)])) := by rw [p172]; exact mu_self _ _ _
        have p172q : M171 = mu MM146 q164 (.inr (7, [.int (nI k), .ref (ad143 0 (k % 4)), .ref (ad143 4 0)])) := by rw [p172, eM165, mu_mu]
        refine m_aast X Y 5 (r := (RX6, TX6, 3)) rfl hh174 hh177 rfl (vp_in_nI (show k < 8 by omega) (by decide)) dX7_init_164 (fun H locs Y => ?_)
        obtain ⟨M178, eM2⟩ : ∃ zz : Mp, zz = mu M171 (ad143 8 2) (qrow (kc 5) 8 (va_up (fun j => if j < k then some (ad143 6 j) else none) k (some q164))) := ⟨_, rfl⟩
        rw [nI_cl (show k < 2147483648 by omega)] at Y
        replace Y : mY D A M178 s H locs := by rw [eM2]; exact Y
        obtain ⟨ad2, hag, hPI2, hkp2⟩ := hPI.add (r := 2) (q := q164) (by decide) (by rw [fS_r]; exact (show k < 8 by omega)) fq164 (fun ad9 ha9 => by rw [fS_r]; show Sum.inr (7, [Value.int (nI k), .ref (ad9 0 (k % 4)), .ref (ad9 4 0)]) = _; rw [ha9 0 _ (fun z => absurd z.1 (by decide)), ha9 4 _ (fun z => absurd z.1 (by decide))]) ⟨fun z => by first | exact absurd z (by decide) | exact ⟨by simp [fS], by simp [fS]⟩, fun z => by first | exact absurd z (by decide) | simp [fS]⟩ p172q (show M178 = _ by rw [fS_r]; exact eM2)
        rw [fS_s] at hPI2
        have hKP2 : KP M M178 h0 := fun x e hx hn => hkp2 x e (hKP x e hx hn) (fun z => by have z2 := hfr 2 (by decide); rw [← z, hx] at z2; cases z2)
        have e7 : ad2 7 0 = ad143 7 0 := hag 7 0 (fun z => absurd z.1 (by decide))
        have hfr2 : ∀ i, i < 4 → M (ad2 8 i) = none := fun i hi => by rw [hag 8 i (fun z => absurd z.1 (by decide))]; exact hfr i hi
        refine lv_iinc (v := (nI (k + 1))) (lv' := [(1, .int (nI (k + 1))), (0, .ref (ad143 7 0))]) hx hb dX7_init_165 hl (k := 1) rfl (nI_add _ 1) (by decide) rfl (fun ls hl => ?_)
        refine lv_goto (tgt := 131) hx hb dX7_init_168 (by decide) ?_
        exact ih (k := k + 1) (MM146 := M178) (ad143 := ad2) (Y := Y) (hl := by rw [e7]; exact (lv_sub hl [1, 0] rfl)) (hfu := by omega) (hk := by omega) (hPI := hPI2) (hKP := hKP2) (had7 := e7.trans had7) (hfr := hfr2) (hce144 := by omega) (hsl145 := by omega)
    | succ fu ih =>
      have h7 := hPI.1 7 0 rfl
      have h7 : MM142 (ad139 7 0) = some (.inr (8, [.ref (ad139 8 0), .ref (ad139 8 1), .ref (ad139 8 2), .ref (ad139 8 3), .ref (ad139 9 0), .ref (ad139 9 1), .ref (ad139 9 2), .int (nI 0)])) := h7
      have har1 : MM142 (ad139 8 1) = some (qrow (kc 4) 3 (fun j => if j < k then some (ad139 4 j) else none)) := by have z := hPI.1 8 1 (show 1 < 4 by decide); simp only [icell, fS_r] at z; exact z
      refine lv_iload_n hx hb dX7_init_104 rfl (lv_at hl 1 rfl) ?_
      refine n_iconst hx hb 3 dX7_init_105 (by decide) ?_
      refine n_icmp_ge hx hb 129 (by omega) (by omega) dX7_init_106 (by decide) (fun zq => absurd zq (by omega)) (fun _ => ?_)
      refine lv_aload_n hx hb dX7_init_109 rfl (lv_at hl 0 rfl) ?_
      refine m_get (ref := "CardPort") (C := RX7) (T := TX7) (N := 8) (ci := 8) X Y htX7_init_wsX701 h7 rfl 1 (by decide) kwX7_init_7 rfl (v := .ref (ad139 8 1)) rfl dX7_init_110 ?_
      refine lv_iload_n hx hb dX7_init_113 rfl (lv_at hl 1 rfl) ?_
      refine m_new (C := RX4) (T := TX4) (N := 3) (ci := 5) X Y hA htX7_init_wsX404 tyX4 tyX4_ok kwX7_init_6 kwX7_init_21 kwX7_init_22 rfl (fs := [.int 0, .int 0, .int 0]) (fun j hj => by rcases (show j = 0 ∨ j = 1 ∨ j = 2 by omega) with rfl | rfl | rfl <;> rfl) (by show _ ≤ 100; omega) (by show _ ≤ 700; omega) dX7_init_114 (fun q179 H fq179 Y => ?_)
      obtain ⟨M180, eM180⟩ : ∃ zz9 : Mp, zz9 = mu MM142 q179 (.inr (5, [.int 0, .int 0, .int 0])) := ⟨_, rfl⟩
      replace Y : mY D A M180 s H locs := by rw [eM180]; exact Y
      have hh181 : M180 (ad139 7 0) = some (.inr (8, [.ref (ad139 8 0), .ref (ad139 8 1), .ref (ad139 8 2), .ref (ad139 8 3), .ref (ad139 9 0), .ref (ad139 9 1), .ref (ad139 9 2), .int (nI 0)])) := by rw [eM180, mu_ne _ _ (ne_fresh h7 fq179)]; exact h7
      have hh182 : M180 (ad139 8 1) = some (qrow (kc 4) 3 (fun j => if j < k then some (ad139 4 j) else none)) := by rw [eM180, mu_ne _ _ (ne_fresh har1 fq179)]; exact har1
      have hh183 : M180 q179 = some (.inr (5, [.int 0, .int 0, .int 0])) := by rw [eM180]; exact mu_self _ _ _
      refine lv_dup hx hb dX7_init_117 rfl ?_
      refine lv_iload_n hx hb dX7_init_118 rfl (lv_at hl 1 rfl) ?_
      refine m_Iv (As := [.int (nI k)]) (rest := [.ref q179, .int (nI k), .ref (ad139 8 1)]) X Y hA hcx (c_X4_init l D kc A e0 M180 q179 k 0 0 0 hh183) (cwI 1 X.1.2.2.2.2 gX7_init_X4_init rfl rfl rfl (X.1.2.2.2.2 _ kwX7_init_22) (X.1.2.2.2.2 _ kwX7_init_47) (X.1.2.2.2.2 _ kwX7_init_48) rfl (by decide +kernel) ⟨Nat.le_of_ble_eq_true rfl, Nat.le_of_ble_eq_true rfl⟩) rfl rfl hl.1 (Nat.le_of_ble_eq_true rfl) dX7_init_119 ⟨by show _ ≤ 100; omega, by show _ ≤ 700; omega⟩ (fun M184 H locs p185 Y => ?_)
      have hh186 : M184 (ad139 7 0) = some (.inr (8, [.ref (ad139 8 0), .ref (ad139 8 1), .ref (ad139 8 2), .ref (ad139 8 3), .ref (ad139 9 0), .ref (ad139 9 1), .ref (ad139 9 2), .int (nI 0)])) := by rw [p185, mu_ne _ _ (ne_fresh h7 fq179)]; exact hh181
      have hh187 : M184 (ad139 8 1) = some (qrow (kc 4) 3 (fun j => if j < k then some (ad139 4 j) else none)) := by rw [p185, mu_ne _ _ (ne_fresh har1 fq179)]; exact hh182
      have hh188 : M184 q179 = some (.inr (5, [.int (nI k), .int (nI 10), .int (nI 500)])) := by rw [p185]; exact mu_self _ _ _
      have p185q : M184 = mu MM142 q179 (.inr (5, [.int (nI k), .int (nI 10), .int (nI 500)])) := by rw [p185, eM180, mu_mu]
      refine m_aast X Y 4 (r := (RX4, TX4, 3)) rfl hh187 hh188 rfl (vp_in_nI (show k < 3 by omega) (by decide)) dX7_init_122 (fun H locs Y => ?_)
      obtain ⟨M189, eM2⟩ : ∃ zz : Mp, zz = mu M184 (ad139 8 1) (qrow (kc 4) 3 (va_up (fun j => if j < k then some (ad139 4 j) else none) k (some q179))) := ⟨_, rfl⟩
      rw [nI_cl (show k < 2147483648 by omega)] at Y
      replace Y : mY D A M189 s H locs := by rw [eM2]; exact Y
      obtain ⟨ad2, hag, hPI2, hkp2⟩ := hPI.add (r := 1) (q := q179) (by decide) (by rw [fS_r]; exact (show k < 3 by omega)) fq179 (fun ad9 ha9 => by rw [fS_r]; rfl) ⟨fun z => by first | exact absurd z (by decide) | exact ⟨by simp [fS], by simp [fS]⟩, fun z => by first | exact absurd z (by decide) | simp [fS]⟩ p185q (show M189 = _ by rw [fS_r]; exact eM2)
      rw [fS_s] at hPI2
      have hKP2 : KP M M189 h0 := fun x e hx hn => hkp2 x e (hKP x e hx hn) (fun z => by have z2 := hfr 1 (by decide); rw [← z, hx] at z2; cases z2)
      have e7 : ad2 7 0 = ad139 7 0 := hag 7 0 (fun z => absurd z.1 (by decide))
      have hfr2 : ∀ i, i < 4 → M (ad2 8 i) = none := fun i hi => by rw [hag 8 i (fun z => absurd z.1 (by decide))]; exact hfr i hi
      refine lv_iinc (v := (nI (k + 1))) (lv' := [(1, .int (nI (k + 1))), (0, .ref (ad139 7 0))]) hx hb dX7_init_123 hl (k := 1) rfl (nI_add _ 1) (by decide) rfl (fun ls hl => ?_)
      refine lv_goto (tgt := 104) hx hb dX7_init_126 (by decide) ?_
      exact ih (k := k + 1) (MM142 := M189) (ad139 := ad2) (Y := Y) (hl := by rw [e7]; exact (lv_sub hl [1, 0] rfl)) (hfu := by omega) (hk := by omega) (hPI := hPI2) (hKP := hKP2) (had7 := e7.trans had7) (hfr := hfr2) (hce140 := by omega) (hsl141 := by omega)
  | succ fu ih =>
    have h7 := hPI.1 7 0 rfl
    have h7 : MM138 (ad135 7 0) = some (.inr (8, [.ref (ad135 8 0), .ref (ad135 8 1), .ref (ad135 8 2), .ref (ad135 8 3), .ref (ad135 9 0), .ref (ad135 9 1), .ref (ad135 9 2), .int (nI 0)])) := h7
    have har0 : MM138 (ad135 8 0) = some (qrow (kc 3) 4 (fun j => if j < k then some (ad135 0 j) else none)) := by have z := hPI.1 8 0 (show 0 < 4 by decide); simp only [icell, fS_r] at z; exact z
    refine lv_iload_n hx hb dX7_init_78 rfl (lv_at hl 1 rfl) ?_
    refine n_iconst hx hb 4 dX7_init_79 (by decide) ?_
    refine n_icmp_ge hx hb 102 (by omega) (by omega) dX7_init_80 (by decide) (fun zq => absurd zq (by omega)) (fun _ => ?_)
    refine lv_aload_n hx hb dX7_init_83 rfl (lv_at hl 0 rfl) ?_
    refine m_get (ref := "CardPort") (C := RX7) (T := TX7) (N := 8) (ci := 8) X Y htX7_init_wsX701 h7 rfl 0 (by decide) kwX7_init_5 rfl (v := .ref (ad135 8 0)) rfl dX7_init_84 ?_
    refine lv_iload_n hx hb dX7_init_87 rfl (lv_at hl 1 rfl) ?_
    refine m_new (C := RX0) (T := TX0) (N := 2) (ci := 1) X Y hA htX7_init_wsX003 tyX0 tyX0_ok kwX7_init_4 kwX7_init_19 kwX7_init_20 rfl (fs := [.long 0, .long 0]) (fun j hj => by rcases (show j = 0 ∨ j = 1 by omega) with rfl | rfl <;> rfl) (by show _ ≤ 100; omega) (by show _ ≤ 700; omega) dX7_init_88 (fun q190 H fq190 Y => ?_)
    obtain ⟨M191, eM191⟩ : ∃ zz9 : Mp, zz9 = mu MM138 q190 (.inr (1, [.long 0, .long 0])) := ⟨_, rfl⟩
    replace Y : mY D A M191 s H locs := by rw [eM191]; exact Y
    have hh192 : M191 (ad135 7 0) = some (.inr (8, [.ref (ad135 8 0), .ref (ad135 8 1), .ref (ad135 8 2), .ref (ad135 8 3), .ref (ad135 9 0), .ref (ad135 9 1), .ref (ad135 9 2), .int (nI 0)])) := by rw [eM191, mu_ne _ _ (ne_fresh h7 fq190)]; exact h7
    have hh193 : M191 (ad135 8 0) = some (qrow (kc 3) 4 (fun j => if j < k then some (ad135 0 j) else none)) := by rw [eM191, mu_ne _ _ (ne_fresh har0 fq190)]; exact har0
    have hh194 : M191 q190 = some (.inr (1, [.long 0, .long 0])) := by rw [eM191]; exact mu_self _ _ _
    refine lv_dup hx hb dX7_init_91 rfl ?_
    refine m_Nv (As := []) (rest := [.ref q190, .int (nI k), .ref (ad135 8 0)]) X Y hA hcx (c_X0_init l D kc A e0 M191 q190  0 0 hh194) ⟨va_cnB 0 X.1.2.2.2.2 gX7_init_X0_init_n50 rfl rfl rfl hcx.1.2.2.2.1 (X.1.2.2.2.2 _ kwX7_init_20) (by decide +kernel) ⟨Nat.le_of_ble_eq_true rfl, Nat.le_of_ble_eq_true rfl⟩, rfl, X.1.2.2.2.2 _ kwX7_init_42⟩ rfl rfl hl.1 (Nat.le_of_ble_eq_true rfl) dX7_init_92 ⟨by show _ ≤ 100; omega, by show _ ≤ 700; omega⟩ (fun M195 H locs p196 Y => ?_)
    have hh197 : M195 (ad135 7 0) = some (.inr (8, [.ref (ad135 8 0), .ref (ad135 8 1), .ref (ad135 8 2), .ref (ad135 8 3), .ref (ad135 9 0), .ref (ad135 9 1), .ref (ad135 9 2), .int (nI 0)])) := by rw [p196, mu_ne _ _ (ne_fresh h7 fq190)]; exact hh192
    have hh198 : M195 (ad135 8 0) = some (qrow (kc 3) 4 (fun j => if j < k then some (ad135 0 j) else none)) := by rw [p196, mu_ne _ _ (ne_fresh har0 fq190)]; exact hh193
    have hh199 : M195 q190 = some (.inr (1, [.long 0, .long 0])) := by rw [p196]; exact mu_self _ _ _
    have p196q : M195 = mu MM138 q190 (.inr (1, [.long 0, .long 0])) := by rw [p196, eM191, mu_mu]
    refine m_aast X Y 3 (r := (RX0, TX0, 2)) rfl hh198 hh199 rfl (vp_in_nI (show k < 4 by omega) (by decide)) dX7_init_95 (fun H locs Y => ?_)
    obtain ⟨M200, eM2⟩ : ∃ zz : Mp, zz = mu M195 (ad135 8 0) (qrow (kc 3) 4 (va_up (fun j => if j < k then some (ad135 0 j) else none) k (some q190))) := ⟨_, rfl⟩
    rw [nI_cl (show k < 2147483648 by omega)] at Y
    replace Y : mY D A M200 s H locs := by rw [eM2]; exact Y
    obtain ⟨ad2, hag, hPI2, hkp2⟩ := hPI.add (r := 0) (q := q190) (by decide) (by rw [fS_r]; exact (show k < 4 by omega)) fq190 (fun ad9 ha9 => rfl) ⟨fun z => by first | exact absurd z (by decide) | exact ⟨by simp [fS], by simp [fS]⟩, fun z => by first | exact absurd z (by decide) | simp [fS]⟩ p196q (show M200 = _ by rw [fS_r]; exact eM2)
    rw [fS_s] at hPI2
    have hKP2 : KP M M200 h0 := fun x e hx hn => hkp2 x e (hKP x e hx hn) (fun z => by have z2 := hfr 0 (by decide); rw [← z, hx] at z2; cases z2)
    have e7 : ad2 7 0 = ad135 7 0 := hag 7 0 (fun z => absurd z.1 (by decide))
    have hfr2 : ∀ i, i < 4 → M (ad2 8 i) = none := fun i hi => by rw [hag 8 i (fun z => absurd z.1 (by decide))]; exact hfr i hi
    refine lv_iinc (v := (nI (k + 1))) (lv' := [(1, .int (nI (k + 1))), (0, .ref (ad135 7 0))]) hx hb dX7_init_96 hl (k := 1) rfl (nI_add _ 1) (by decide) rfl (fun ls hl => ?_)
    refine lv_goto (tgt := 78) hx hb dX7_init_99 (by decide) ?_
    exact ih (k := k + 1) (MM138 := M200) (ad135 := ad2) (Y := Y) (hl := by rw [e7]; exact (lv_sub hl [1, 0] rfl)) (hfu := by omega) (hk := by omega) (hPI := hPI2) (hKP := hKP2) (had7 := e7.trans had7) (hfr := hfr2) (hce136 := by omega) (hsl137 := by omega)
