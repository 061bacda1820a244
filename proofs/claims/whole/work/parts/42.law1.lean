theorem G.f13 {pr : Nat → Prop} {kc : Nat → ClassId} {e0 : Nat × Nat} {σ τ : Sg} {th : Int32} {o : Int64} {g : Gh} {M : Mp} (hG : G pr kc e0 σ τ th o g M) (h : pr 13) : M (g.1 13 0) = some (lrow (kc 1) 1 (fun j => if j = 0 then o else 0)) := hG.1 13 0 ⟨h, rfl⟩
theorem gc_o (kc : Nat → ClassId) (e0 : Nat × Nat) (σ τ : Sg) (th : Int32) (o o' : Int64) (g : Gh) : ∀ (t i : Nat), t < 13 → gcell kc e0 σ τ th o' g t i = gcell kc e0 σ τ th o g t i
  | 0, _, _ => rfl | 1, _, _ => rfl | 2, _, _ => rfl | 3, _, _ => rfl | 4, _, _ => rfl | 5, _, _ => rfl | 6, _, _ => rfl | 7, _, _ => rfl | 8, _, _ => rfl | 9, _, _ => rfl | 10, _, _ => rfl | 11, _, _ => rfl | 12, _, _ => rfl
  | t + 13, _, h => absurd h (by omega)
theorem G.setO {pr : Nat → Prop} {kc : Nat → ClassId} {e0 : Nat × Nat} {σ τ : Sg} {th : Int32} {o : Int64} {g : Gh} {M : Mp} (hG : G pr kc e0 σ τ th o g M) (h : pr 13) (v : Int64) : G pr kc e0 σ τ th v g (mu M (g.1 13 0) (lrow (kc 1) 1 (vp_updL (fun j => if j = 0 then o else 0) 0 v))) := by
  refine hG.upd (t := 13) (i := 0) ⟨h, rfl⟩ ?_ rfl rfl rfl (fun t' i' hr hn => ?_)
  · have e9 : vp_updL (fun j => if j = 0 then o else 0) 0 v = fun j : Nat => if j = 0 then v else 0 := by
      funext j; unfold vp_updL; by_cases e : j = 0 <;> simp [e]
    rw [e9]; rfl
  · by_cases h13 : t' < 13
    · exact gc_o kc e0 σ τ th o v g t' i' h13
    · match t', hr, hn, h13 with
      | 13, hr, hn, _ => exact absurd ⟨rfl, hr.2⟩ hn
      | t + 14, hr, _, _ => exact hr.2.elim
      | 0, _, _, h | 1, _, _, h | 2, _, _, h | 3, _, _, h | 4, _, _, h | 5, _, _, h | 6, _, _, h | 7, _, _, h | 8, _, _, h | 9, _, _, h | 10, _, _, h | 11, _, _, h | 12, _, _, h => exact absurd (by decide) h
/-- what a call leaves behind: the number of its exception, its answer in out (if none) -/
def LC (pr : Nat → Prop) (kc : Nat → ClassId) (e0 : Nat × Nat) (τ : Sg) (th : Int32) (g : Gh) (c : Nat) (v : Int64) (σ' : Sg) : Int32 → Mp → Prop := fun r M1 => r = nI c ∧ ∃ g' o', KG g g' ∧ G pr kc e0 σ' τ th o' g' M1 ∧ (c = 0 → o' = v)
theorem LC_x {pr : Nat → Prop} {kc : Nat → ClassId} {e0 : Nat × Nat} {σ τ : Sg} {th : Int32} {o : Int64} {g : Gh} {M : Mp} {c k : Nat} {v : Int64} {σ' : Sg} (hk : c = k + 1) (hs : σ' = σ) (hG : G pr kc e0 σ τ th o g M) : LC pr kc e0 τ th g c v σ' (nI (k + 1)) M := ⟨by rw [hk], g, o, KG.rf g, by rw [hs]; exact hG, fun z => by omega⟩
theorem LC_0 {pr : Nat → Prop} {kc : Nat → ClassId} {e0 : Nat × Nat} {σ' τ : Sg} {th : Int32} {g g' : Gh} {M : Mp} {c : Nat} {v : Int64} (hk : c = 0) (hg : KG g g') (hG : G pr kc e0 σ' τ th v g' M) : LC pr kc e0 τ th g c v σ' (nI 0) M := ⟨by rw [hk], g', v, hg, hG, fun _ => rfl⟩
/-- an exception leaves the numbers as they were -/
def spP (n : Nat) (σ : Sg) (an : An) : Prop := an.1 ≤ n ∧ (an.1 ≠ 0 → an.2.2 = σ)
theorem sp_shop_x (σ : Sg) (a : Int32) (b : Int32) : spP 1 σ (sp_shop σ a b) := by unfold sp_shop; (repeat' split) <;> first | exact ⟨Nat.zero_le _, fun h => absurd rfl h⟩ | exact ⟨Nat.le_of_ble_eq_true rfl, fun _ => rfl⟩
theorem sp_kind_x (σ : Sg) (a : Int32) (b : Int32) (d : Int32) : spP 2 σ (sp_kind σ a b d) := by unfold sp_kind; (repeat' split) <;> first | exact ⟨Nat.zero_le _, fun h => absurd rfl h⟩ | exact ⟨Nat.le_of_ble_eq_true rfl, fun _ => rfl⟩
theorem sp_authorise_x (σ : Sg) (a : Int32) (b : Int32) (d : Int32) : spP 3 σ (sp_authorise σ a b d) := by unfold sp_authorise; (repeat' split) <;> first | exact ⟨Nat.zero_le _, fun h => absurd rfl h⟩ | exact ⟨Nat.le_of_ble_eq_true rfl, fun _ => rfl⟩
theorem sp_capture_x (σ : Sg) (a : Int32) (b : Int32) : spP 3 σ (sp_capture σ a b) := by unfold sp_capture; (repeat' split) <;> first | exact ⟨Nat.zero_le _, fun h => absurd rfl h⟩ | exact ⟨Nat.le_of_ble_eq_true rfl, fun _ => rfl⟩
theorem sp_cancel_x (σ : Sg) (a : Int32) : spP 2 σ (sp_cancel σ a) := by unfold sp_cancel; (repeat' split) <;> first | exact ⟨Nat.zero_le _, fun h => absurd rfl h⟩ | exact ⟨Nat.le_of_ble_eq_true rfl, fun _ => rfl⟩
theorem sp_refund_x (σ : Sg) (a : Int32) (b : Int32) : spP 3 σ (sp_refund σ a b) := by unfold sp_refund; (repeat' split) <;> first | exact ⟨Nat.zero_le _, fun h => absurd rfl h⟩ | exact ⟨Nat.le_of_ble_eq_true rfl, fun _ => rfl⟩
theorem sp_dispute_x (σ : Sg) (a : Int32) (b : Int32) : spP 3 σ (sp_dispute σ a b) := by unfold sp_dispute; (repeat' split) <;> first | exact ⟨Nat.zero_le _, fun h => absurd rfl h⟩ | exact ⟨Nat.le_of_ble_eq_true rfl, fun _ => rfl⟩
theorem sp_answer_x (σ : Sg) (a : Int32) : spP 2 σ (sp_answer σ a) := by unfold sp_answer; (repeat' split) <;> first | exact ⟨Nat.zero_le _, fun h => absurd rfl h⟩ | exact ⟨Nat.le_of_ble_eq_true rfl, fun _ => rfl⟩
theorem sp_press_x (σ : Sg) (a : Int32) : spP 2 σ (sp_press σ a) := by unfold sp_press; (repeat' split) <;> first | exact ⟨Nat.zero_le _, fun h => absurd rfl h⟩ | exact ⟨Nat.le_of_ble_eq_true rfl, fun _ => rfl⟩
theorem sp_rule_x (σ : Sg) (a : Int32) (b : Bool) : spP 2 σ (sp_rule σ a b) := by unfold sp_rule; (repeat' split) <;> first | exact ⟨Nat.zero_le _, fun h => absurd rfl h⟩ | exact ⟨Nat.le_of_ble_eq_true rfl, fun _ => rfl⟩
theorem sp_pass_x (σ : Sg) (a : Int32) : spP 1 σ (sp_pass σ a) := by unfold sp_pass; (repeat' split) <;> first | exact ⟨Nat.zero_le _, fun h => absurd rfl h⟩ | exact ⟨Nat.le_of_ble_eq_true rfl, fun _ => rfl⟩
theorem sp_paymentOf_x (σ : Sg) (a : Int32) (b : Int32) : spP 2 σ (sp_paymentOf σ a b) := by unfold sp_paymentOf; (repeat' split) <;> first | exact ⟨Nat.zero_le _, fun h => absurd rfl h⟩ | exact ⟨Nat.le_of_ble_eq_true rfl, fun _ => rfl⟩
theorem sp_captureOf_x (σ : Sg) (a : Int32) (b : Int32) : spP 2 σ (sp_captureOf σ a b) := by unfold sp_captureOf; (repeat' split) <;> first | exact ⟨Nat.zero_le _, fun h => absurd rfl h⟩ | exact ⟨Nat.le_of_ble_eq_true rfl, fun _ => rfl⟩
theorem sp_chargebackOf_x (σ : Sg) (a : Int32) (b : Int32) : spP 2 σ (sp_chargebackOf σ a b) := by unfold sp_chargebackOf; (repeat' split) <;> first | exact ⟨Nat.zero_le _, fun h => absurd rfl h⟩ | exact ⟨Nat.le_of_ble_eq_true rfl, fun _ => rfl⟩
theorem sp_limit_x (σ : Sg) (a : Int32) : spP 1 σ (sp_limit σ a) := by unfold sp_limit; (repeat' split) <;> first | exact ⟨Nat.zero_le _, fun h => absurd rfl h⟩ | exact ⟨Nat.le_of_ble_eq_true rfl, fun _ => rfl⟩
theorem sp_net_x (σ : Sg) (a : Int32) (b : Bool) : (sp_net σ a b).1 ≤ 1 := by unfold sp_net; split <;> exact Nat.le_of_ble_eq_true rfl
theorem sp_netAnew_x (σ : Sg) (a : Int32) : (sp_netAnew σ a).1 ≤ 1 := by unfold sp_netAnew; split <;> exact Nat.le_of_ble_eq_true rfl
theorem sp_due_x (σ : Sg) (a : Int32) : spP 1 σ (sp_due σ a) := by unfold sp_due; (repeat' split) <;> first | exact ⟨Nat.zero_le _, fun h => absurd rfl h⟩ | exact ⟨Nat.le_of_ble_eq_true rfl, fun _ => rfl⟩
theorem sp_count_x (σ : Sg) (a : Int32) : spP 1 σ (sp_count σ a) := by unfold sp_count; (repeat' split) <;> first | exact ⟨Nat.zero_le _, fun h => absurd rfl h⟩ | exact ⟨Nat.le_of_ble_eq_true rfl, fun _ => rfl⟩
theorem kwX8_thrown_1 : Cond.fieldLink RX8 69 "CardPortModel" "thrown" "I" ∈ wsX8_thrown := List.mem_of_getElem? (i := 1) rfl
theorem htX8_thrown_wsX801 : ∀ w ∈ wsX80, w ∈ wsX8_thrown := fun _ h => List.mem_cons_of_mem _ (List.mem_append_right _ h)
set_option maxHeartbeats 4000000 in
set_option maxRecDepth 100000 in
theorem c_X8_thrown (l : Launch) (D : va_G) (kc : Nat → ClassId) (A : Nat → Prop) (e0 : Nat × Nat) (M : Mp) {pr : Nat → Prop} {σ τ : Sg} {th : Int32} {o : Int64} {g : Gh} (hG : G pr kc e0 σ τ th o g M) (hpr : ∀ t, t ≤ 13 → pr t) : Met l yX8_thrown wsX8_thrown ({ frames := 1, cells := 0, slots := 0, locals := 20 }) (mPre D kc A e0 M [.ref (g.1 11 0)]) (va_Qi (fun r M1 => r = th ∧ M1 = M) (mB D A) A) 0 0 A := by
  refine Met.ofW (cc := cX8_thrown) (maxL := 1) (ret := (some .int)) (by decide) rfl ?_
  intro p e s m args below meth c s₁ B hml hv
  obtain ⟨rfl, hw, hK, hA, hcx⟩ := hv
  have X : mX p s m _ c cX8_thrown 1 RX8 wsX8_thrown D kc := ⟨⟨B.exec, B.bytes, hml, findClass_of_methodNamed B.named, atoms_spec (ws := wsX8_thrown) B.pre⟩, hK⟩
  have hx := B.exec
  have hb := B.bytes
  have hr := B.returns
  have hlocks := B.notSynchronized
  have Y : mY D A M s s.heap [] := ⟨hw, va_S.rf⟩
  have hl := lv_entry ([.ref (g.1 11 0)]) (n := 1) (Nat.le_of_ble_eq_true rfl)
  rw [lg_entry_eq]
  generalize (lg_sl ([.ref (g.1 11 0)]) ++ List.replicate (1 - (lg_sl ([.ref (g.1 11 0)])).length) Slot.unset).toArray = ls at hl ⊢
  have hl : lv_has ls 1 [(0, .ref (g.1 11 0))] := hl
  refine lv_aload_n hx hb dX8_thrown_0 rfl (lv_at hl 0 rfl) ?_
  have hg1 := hG.f11 (hpr 11 (by decide))
  refine m_get (ref := "CardPortModel") (C := RX8) (T := TX8) (N := 25) (ci := 9) X Y htX8_thrown_wsX801 hg1 rfl 24 (by decide) kwX8_thrown_1 rfl (v := .int th) rfl dX8_thrown_1 ?_
  refine m_iret X Y hr hlocks (by decide) (by decide) ?_ dX8_thrown_4
  exact ⟨rfl, rfl⟩
theorem kwL_shop_1 : Cond.classLink RL 13 "java/lang/IndexOutOfBoundsException" ∈ wsL_shop := List.mem_of_getElem? (i := 1) rfl
set_option maxHeartbeats 4000000 in
set_option maxRecDepth 100000 in
theorem c_L_shop (l : Launch) (hlt : l.stackTraces = false) (D : va_G) (kc : Nat → ClassId) (A : Nat → Prop) (e0 : Nat × Nat) (M : Mp) {pr : Nat → Prop} {σ τ : Sg} {th : Int32} {o : Int64} {g : Gh} {nn : Nat} (hG : G pr kc e0 σ τ th o g M) (hwf : WS nn σ) (hpr : ∀ t, t ≤ 13 → pr t) (a : Int32) (b : Int32) : Met l yL_shop wsL_shop ({ frames := 9, cells := 12, slots := 320, locals := 325 }) (mPre D kc A e0 M [.ref (g.1 7 0), .int a, .int b, .ref (g.1 13 0)]) (va_Qi (LC pr kc e0 τ th g (sp_shop σ a b).1 (sp_shop σ a b).2.1.toInt64 (sp_shop σ a b).2.2) (mB D A) A) 12 320 A := by
  refine va_MetW (cc := cL_shop) (maxL := 5) (ret := (some .int)) (hh := [(0, 10, 13, 13)]) (by decide) rfl ?_
  intro p e s m args below meth c s₁ B hml hv
  have htab := vx_table (x := yL_shop) B (atoms_spec (ws := wsL_shop) B.pre _ List.mem_cons_self)
  obtain ⟨rfl, hw, hK, hA, hcx⟩ := hv
  have X : mX p s m _ c cL_shop 5 RL wsL_shop D kc := ⟨⟨B.exec, B.bytes, hml, findClass_of_methodNamed B.named, atoms_spec (ws := wsL_shop) B.pre⟩, hK⟩
  have hx := B.exec
  have hb := B.bytes
  have hr := B.returns
  have hlocks := B.notSynchronized
  have Y : mY D A M s s.heap [] := ⟨hw, va_S.rf⟩
  have hl := lv_entry ([.ref (g.1 7 0), .int a, .int b, .ref (g.1 13 0)]) (n := 5) (Nat.le_of_ble_eq_true rfl)
  rw [lg_entry_eq]
  generalize (lg_sl ([.ref (g.1 7 0), .int a, .int b, .ref (g.1 13 0)]) ++ List.replicate (5 - (lg_sl ([.ref (g.1 7 0), .int a, .int b, .ref (g.1 13 0)])).length) Slot.unset).toArray = ls at hl ⊢
  have hl : lv_has ls 5 [(0, .ref (g.1 7 0)), (1, .int a), (2, .int b), (3, .ref (g.1 13 0))] := hl
  refine lv_aload_n hx hb dL_shop_0 rfl (lv_at hl 3 rfl) ?_
  refine n_iconst hx hb 0 dL_shop_1 (by decide) ?_
  refine lv_aload_n hx hb dL_shop_2 rfl (lv_at hl 0 rfl) ?_
  refine lv_iload_n hx hb dL_shop_3 rfl (lv_at hl 1 rfl) ?_
  refine lv_iload_n hx hb dL_shop_4 rfl (lv_at hl 2 rfl) ?_
  refine m_hVi (As := [.int a, .int b]) (rest := [.int (nI 0), .ref (g.1 13 0)]) X Y hA hcx (c_X7_shop l hlt D kc A e0 M hG hwf (fun t ht => hpr t (Nat.le_trans ht (by decide))) a b) (cwV 2 X.1.2.2.2.2 gL_shop_X7_shop rfl rfl rfl (by decide +kernel) ⟨Nat.le_of_ble_eq_true rfl, Nat.le_of_ble_eq_true rfl⟩) (hG.f7 (hpr 7 (by decide))) rfl rfl rfl hl.1 (Nat.le_of_ble_eq_true rfl) dL_shop_5 ⟨by decide, by decide⟩ (fun E ce q9 M1 H locs hpx Y hce hcv hcl => ?_) (fun r M1 H locs hp Y => ?_)
  · obtain ⟨hc, hu⟩ := hpx
    have hx1 := sp_shop_x σ a b
    have hx2 : (sp_shop σ a b).2.2 = σ := hx1.2 hc
    replace hx1 := hx1.1
    have hk : (sp_shop σ a b).1 = 1 := by omega
    rw [hk] at hu
    have eE : E = exn 1 := (Prod.mk.inj hu).1
    have eM : M1 = M := (Prod.mk.inj hu).2
    rw [eM] at Y
    subst eE
    refine vx_catch (name := exn 1) X.1.2.2.2.1 [] ⟨0, 10, 13, 13⟩ [] htab (fun z hz => by cases hz) (by decide) (by decide) (X.1.2.2.2.2 _ kwL_shop_1) ((hcx.1.2.1 (exn 1, exn 1) (by decide)).use rfl) hce hcv hcl ?_
    show W p l e _ s m _ below meth c H locs _ _ _ (F0 m 13 ls [.ref q9])
    refine lv_astore (lv' := [(4, .ref q9), (0, .ref (g.1 7 0)), (1, .int a), (2, .int b), (3, .ref (g.1 13 0))]) hx hb dL_shop_13 hl (by decide) rfl (fun ls hl => ?_)
    refine n_iconst hx hb 1 dL_shop_15 (by decide) ?_
    refine m_iret X Y hr hlocks (by decide) (by decide) ?_ dL_shop_16
    exact LC_x (k := 0) hk hx2 hG
  · obtain ⟨hc0, hr0, g1, hk1, hG1⟩ := hp
    have e13 : g1.1 13 0 = g.1 13 0 := hk1 13 0 (by decide) (by decide) (by decide) (by decide)
    subst hr0
    refine lv_i2l hx hb dL_shop_8 rfl ?_
    have h13 := hG1.f13 (hpr 13 (by decide))
    rw [e13] at h13
    refine m_last X Y (h13) (vp_in_nI (show 0 < 1 by decide) (by decide)) dL_shop_9 (fun H locs Y => ?_)
    rw [nI_cl (show 0 < 2147483648 by decide)] at Y
    have hG2 := hG1.setO (hpr 13 (by decide)) ((sp_shop σ a b).2.1.toInt64)
    rw [e13] at hG2
    refine lv_goto (tgt := 17) hx hb dL_shop_10 (by decide) ?_
    refine n_iconst hx hb 0 dL_shop_17 (by decide) ?_
    refine m_iret X Y hr hlocks (by decide) (by decide) ?_ dL_shop_18
    exact LC_0 hc0 hk1 hG2
theorem kwL_kind_1 : Cond.classLink RL 13 "java/lang/IndexOutOfBoundsException" ∈ wsL_kind := List.mem_of_getElem? (i := 1) rfl
theorem kwL_kind_2 : Cond.classLink RL 19 "java/lang/IllegalArgumentException" ∈ wsL_kind := List.mem_of_getElem? (i := 2) rfl
set_option maxHeartbeats 4000000 in
set_option maxRecDepth 100000 in
theorem c_L_kind (l : Launch) (hlt : l.stackTraces = false) (D : va_G) (kc : Nat → ClassId) (A : Nat → Prop) (e0 : Nat × Nat) (M : Mp) {pr : Nat → Prop} {σ τ : Sg} {th : Int32} {o : Int64} {g : Gh} {nn : Nat} (hG : G pr kc e0 σ τ th o g M) (hwf : WS nn σ) (hpr : ∀ t, t ≤ 13 → pr t) (a : Int32) (b : Int32) (d : Int32) : Met l yL_kind wsL_kind ({ frames := 9, cells := 12, slots := 320, locals := 324 }) (mPre D kc A e0 M [.ref (g.1 7 0), .int a, .int b, .int d, .ref (g.1 13 0)]) (va_Qi (LC pr kc e0 τ th g (sp_kind σ a b d).1 (sp_kind σ a b d).2.1.toInt64 (sp_kind σ a b d).2.2) (mB D A) A) 12 320 A := by
  refine va_MetW (cc := cL_kind) (maxL := 6) (ret := (some .int)) (hh := [(0, 12, 15, 13), (0, 12, 19, 19)]) (by decide) rfl ?_
  intro p e s m args below meth c s₁ B hml hv
  have htab := vx_table (x := yL_kind) B (atoms_spec (ws := wsL_kind) B.pre _ List.mem_cons_self)
  obtain ⟨rfl, hw, hK, hA, hcx⟩ := hv
  have X : mX p s m _ c cL_kind 6 RL wsL_kind D kc := ⟨⟨B.exec, B.bytes, hml, findClass_of_methodNamed B.named, atoms_spec (ws := wsL_kind) B.pre⟩, hK⟩
  have hx := B.exec
  have hb := B.bytes
  have hr := B.returns
  have hlocks := B.notSynchronized
  have Y : mY D A M s s.heap [] := ⟨hw, va_S.rf⟩
  have hl := lv_entry ([.ref (g.1 7 0), .int a, .int b, .int d, .ref (g.1 13 0)]) (n := 6) (Nat.le_of_ble_eq_true rfl)
  rw [lg_entry_eq]
  generalize (lg_sl ([.ref (g.1 7 0), .int a, .int b, .int d, .ref (g.1 13 0)]) ++ List.replicate (6 - (lg_sl ([.ref (g.1 7 0), .int a, .int b, .int d, .ref (g.1 13 0)])).length) Slot.unset).toArray = ls at hl ⊢
  have hl : lv_has ls 6 [(0, .ref (g.1 7 0)), (1, .int a), (2, .int b), (3, .int d), (4, .ref (g.1 13 0))] := hl
  refine lv_aload hx hb dL_kind_0 (lv_at hl 4 rfl) ?_
  refine n_iconst hx hb 0 dL_kind_2 (by decide) ?_
  refine lv_aload_n hx hb dL_kind_3 rfl (lv_at hl 0 rfl) ?_
  refine lv_iload_n hx hb dL_kind_4 rfl (lv_at hl 1 rfl) ?_
  refine lv_iload_n hx hb dL_kind_5 rfl (lv_at hl 2 rfl) ?_
  refine lv_iload_n hx hb dL_kind_6 rfl (lv_at hl 3 rfl) ?_
  refine m_hVi (As := [.int a, .int b, .int d]) (rest := [.int (nI 0), .ref (g.1 13 0)]) X Y hA hcx (c_X7_kind l hlt D kc A e0 M hG hwf (fun t ht => hpr t (Nat.le_trans ht (by decide))) a b d) (cwV 3 X.1.2.2.2.2 gL_kind_X7_kind rfl rfl rfl (by decide +kernel) ⟨Nat.le_of_ble_eq_true rfl, Nat.le_of_ble_eq_true rfl⟩) (hG.f7 (hpr 7 (by decide))) rfl rfl rfl hl.1 (Nat.le_of_ble_eq_true rfl) dL_kind_7 ⟨by decide, by decide⟩ (fun E ce q9 M1 H locs hpx Y hce hcv hcl => ?_) (fun r M1 H locs hp Y => ?_)
  · obtain ⟨hc, hu⟩ := hpx
    have hx1 := sp_kind_x σ a b d
    have hx2 : (sp_kind σ a b d).2.2 = σ := hx1.2 hc
    replace hx1 := hx1.1
    rcases (show (sp_kind σ a b d).1 = 1 ∨ (sp_kind σ a b d).1 = 2 by omega) with hk | hk
    · rw [hk] at hu
      have eE : E = exn 1 := (Prod.mk.inj hu).1
      have eM : M1 = M := (Prod.mk.inj hu).2
      rw [eM] at Y
      subst eE
      refine vx_catch (name := exn 1) X.1.2.2.2.1 [] ⟨0, 12, 15, 13⟩ [⟨0, 12, 19, 19⟩] htab (fun z hz => by cases hz) (by decide) (by decide) (X.1.2.2.2.2 _ kwL_kind_1) ((hcx.1.2.1 (exn 1, exn 1) (by decide)).use rfl) hce hcv hcl ?_
      show W p l e _ s m _ below meth c H locs _ _ _ (F0 m 15 ls [.ref q9])
      refine lv_astore (lv' := [(5, .ref q9), (0, .ref (g.1 7 0)), (1, .int a), (2, .int b), (3, .int d), (4, .ref (g.1 13 0))]) hx hb dL_kind_15 hl (by decide) rfl (fun ls hl => ?_)
      refine n_iconst hx hb 1 dL_kind_17 (by decide) ?_
      refine m_iret X Y hr hlocks (by decide) (by decide) ?_ dL_kind_18
      exact LC_x (k := 0) hk hx2 hG
    · rw [hk] at hu
      have eE : E = exn 2 := (Prod.mk.inj hu).1
      have eM : M1 = M := (Prod.mk.inj hu).2
      rw [eM] at Y
      subst eE
      refine vx_catch (name := exn 2) X.1.2.2.2.1 [⟨0, 12, 15, 13⟩] ⟨0, 12, 19, 19⟩ [] htab (fun z hz => by simp only [List.mem_cons, List.not_mem_nil, or_false] at hz; subst hz; exact Or.inr ⟨by decide, exn 1, X.1.2.2.2.2 _ kwL_kind_1, hcx.1.2.2.1 (exn 2, exn 1) (by decide)⟩) (by decide) (by decide) (X.1.2.2.2.2 _ kwL_kind_2) ((hcx.1.2.1 (exn 2, exn 2) (by decide)).use rfl) hce hcv hcl ?_
      show W p l e _ s m _ below meth c H locs _ _ _ (F0 m 19 ls [.ref q9])
      refine lv_astore (lv' := [(5, .ref q9), (0, .ref (g.1 7 0)), (1, .int a), (2, .int b), (3, .int d), (4, .ref (g.1 13 0))]) hx hb dL_kind_19 hl (by decide) rfl (fun ls hl => ?_)
      refine n_iconst hx hb 2 dL_kind_21 (by decide) ?_
      refine m_iret X Y hr hlocks (by decide) (by decide) ?_ dL_kind_22
      exact LC_x (k := 1) hk hx2 hG
  · obtain ⟨hc0, hr0, g1, hk1, hG1⟩ := hp
    have e13 : g1.1 13 0 = g.1 13 0 := hk1 13 0 (by decide) (by decide) (by decide) (by decide)
    subst hr0
    refine lv_i2l hx hb dL_kind_10 rfl ?_
    have h13 := hG1.f13 (hpr 13 (by decide))
    rw [e13] at h13
    refine m_last X Y (h13) (vp_in_nI (show 0 < 1 by decide) (by decide)) dL_kind_11 (fun H locs Y => ?_)
    rw [nI_cl (show 0 < 2147483648 by decide)] at Y
    have hG2 := hG1.setO (hpr 13 (by decide)) ((sp_kind σ a b d).2.1.toInt64)
    rw [e13] at hG2
    refine lv_goto (tgt := 23) hx hb dL_kind_12 (by decide) ?_
    refine n_iconst hx hb 0 dL_kind_23 (by decide) ?_
    refine m_iret X Y hr hlocks (by decide) (by decide) ?_ dL_kind_24
    exact LC_0 hc0 hk1 hG2
theorem kwL_authorise_1 : Cond.classLink RL 13 "java/lang/IndexOutOfBoundsException" ∈ wsL_authorise := List.mem_of_getElem? (i := 1) rfl
theorem kwL_authorise_2 : Cond.classLink RL 19 "java/lang/IllegalArgumentException" ∈ wsL_authorise := List.mem_of_getElem? (i := 2) rfl
theorem kwL_authorise_3 : Cond.classLink RL 24 "java/lang/IllegalStateException" ∈ wsL_authorise := List.mem_of_getElem? (i := 3) rfl
set_option maxHeartbeats 4000000 in
set_option maxRecDepth 100000 in
theorem c_L_authorise (l : Launch) (hlt : l.stackTraces = false) (D : va_G) (kc : Nat → ClassId) (A : Nat → Prop) (e0 : Nat × Nat) (M : Mp) {pr : Nat → Prop} {σ τ : Sg} {th : Int32} {o : Int64} {g : Gh} {nn : Nat} (hG : G pr kc e0 σ τ th o g M) (hwf : WS nn σ) (hpr : ∀ t, t ≤ 13 → pr t) (a : Int32) (b : Int32) (d : Int32) : Met l yL_authorise wsL_authorise ({ frames := 9, cells := 12, slots := 320, locals := 326 }) (mPre D kc A e0 M [.ref (g.1 7 0), .int a, .int b, .int d, .ref (g.1 13 0)]) (va_Qi (LC pr kc e0 τ th g (sp_authorise σ a b d).1 (sp_authorise σ a b d).2.1.toInt64 (sp_authorise σ a b d).2.2) (mB D A) A) 12 320 A := by
  refine va_MetW (cc := cL_authorise) (maxL := 6) (ret := (some .int)) (hh := [(0, 12, 15, 13), (0, 12, 19, 19), (0, 12, 23, 24)]) (by decide) rfl ?_
  intro p e s m args below meth c s₁ B hml hv
  have htab := vx_table (x := yL_authorise) B (atoms_spec (ws := wsL_authorise) B.pre _ List.mem_cons_self)
  obtain ⟨rfl, hw, hK, hA, hcx⟩ := hv
  have X : mX p s m _ c cL_authorise 6 RL wsL_authorise D kc := ⟨⟨B.exec, B.bytes, hml, findClass_of_methodNamed B.named, atoms_spec (ws := wsL_authorise) B.pre⟩, hK⟩
  have hx := B.exec
  have hb := B.bytes
  have hr := B.returns
  have hlocks := B.notSynchronized
  have Y : mY D A M s s.heap [] := ⟨hw, va_S.rf⟩
  have hl := lv_entry ([.ref (g.1 7 0), .int a, .int b, .int d, .ref (g.1 13 0)]) (n := 6) (Nat.le_of_ble_eq_true rfl)
  rw [lg_entry_eq]
  generalize (lg_sl ([.ref (g.1 7 0), .int a, .int b, .int d, .ref (g.1 13 0)]) ++ List.replicate (6 - (lg_sl ([.ref (g.1 7 0), .int a, .int b, .int d, .ref (g.1 13 0)])).length) Slot.unset).toArray = ls at hl ⊢
  have hl : lv_has ls 6 [(0, .ref (g.1 7 0)), (1, .int a), (2, .int b), (3, .int d), (4, .ref (g.1 13 0))] := hl
  refine lv_aload hx hb dL_authorise_0 (lv_at hl 4 rfl) ?_
  refine n_iconst hx hb 0 dL_authorise_2 (by decide) ?_
  refine lv_aload_n hx hb dL_authorise_3 rfl (lv_at hl 0 rfl) ?_
  refine lv_iload_n hx hb dL_authorise_4 rfl (lv_at hl 1 rfl) ?_
  refine lv_iload_n hx hb dL_authorise_5 rfl (lv_at hl 2 rfl) ?_
  refine lv_iload_n hx hb dL_authorise_6 rfl (lv_at hl 3 rfl) ?_
  refine m_hVi (As := [.int a, .int b, .int d]) (rest := [.int (nI 0), .ref (g.1 13 0)]) X Y hA hcx (c_X7_authorise l hlt D kc A e0 M hG hwf (fun t ht => hpr t (Nat.le_trans ht (by decide))) a b d) (cwV 3 X.1.2.2.2.2 gL_authorise_X7_authorise rfl rfl rfl (by decide +kernel) ⟨Nat.le_of_ble_eq_true rfl, Nat.le_of_ble_eq_true rfl⟩) (hG.f7 (hpr 7 (by decide))) rfl rfl rfl hl.1 (Nat.le_of_ble_eq_true rfl) dL_authorise_7 ⟨by decide, by decide⟩ (fun E ce q9 M1 H locs hpx Y hce hcv hcl => ?_) (fun r M1 H locs hp Y => ?_)
  · obtain ⟨hc, hu⟩ := hpx
    have hx1 := sp_authorise_x σ a b d
    have hx2 : (sp_authorise σ a b d).2.2 = σ := hx1.2 hc
    replace hx1 := hx1.1
    rcases (show (sp_authorise σ a b d).1 = 1 ∨ (sp_authorise σ a b d).1 = 2 ∨ (sp_authorise σ a b d).1 = 3 by omega) with hk | hk | hk
    · rw [hk] at hu
      have eE : E = exn 1 := (Prod.mk.inj hu).1
      have eM : M1 = M := (Prod.mk.inj hu).2
      rw [eM] at Y
      subst eE
      refine vx_catch (name := exn 1) X.1.2.2.2.1 [] ⟨0, 12, 15, 13⟩ [⟨0, 12, 19, 19⟩, ⟨0, 12, 23, 24⟩] htab (fun z hz => by cases hz) (by decide) (by decide) (X.1.2.2.2.2 _ kwL_authorise_1) ((hcx.1.2.1 (exn 1, exn 1) (by decide)).use rfl) hce hcv hcl ?_
      show W p l e _ s m _ below meth c H locs _ _ _ (F0 m 15 ls [.ref q9])
      refine lv_astore (lv' := [(5, .ref q9), (0, .ref (g.1 7 0)), (1, .int a), (2, .int b), (3, .int d), (4, .ref (g.1 13 0))]) hx hb dL_authorise_15 hl (by decide) rfl (fun ls hl => ?_)
      refine n_iconst hx hb 1 dL_authorise_17 (by decide) ?_
      refine m_iret X Y hr hlocks (by decide) (by decide) ?_ dL_authorise_18
      exact LC_x (k := 0) hk hx2 hG
    · rw [hk] at hu
      have eE : E = exn 2 := (Prod.mk.inj hu).1
      have eM : M1 = M := (Prod.mk.inj hu).2
      rw [eM] at Y
      subst eE
      refine vx_catch (name := exn 2) X.1.2.2.2.1 [⟨0, 12, 15, 13⟩] ⟨0, 12, 19, 19⟩ [⟨0, 12, 23, 24⟩] htab (fun z hz => by simp only [List.mem_cons, List.not_mem_nil, or_false] at hz; subst hz; exact Or.inr ⟨by decide, exn 1, X.1.2.2.2.2 _ kwL_authorise_1, hcx.1.2.2.1 (exn 2, exn 1) (by decide)⟩) (by decide) (by decide) (X.1.2.2.2.2 _ kwL_authorise_2) ((hcx.1.2.1 (exn 2, exn 2) (by decide)).use rfl) hce hcv hcl ?_
      show W p l e _ s m _ below meth c H locs _ _ _ (F0 m 19 ls [.ref q9])
      refine lv_astore (lv' := [(5, .ref q9), (0, .ref (g.1 7 0)), (1, .int a), (2, .int b), (3, .int d), (4, .ref (g.1 13 0))]) hx hb dL_authorise_19 hl (by decide) rfl (fun ls hl => ?_)
      refine n_iconst hx hb 2 dL_authorise_21 (by decide) ?_
      refine m_iret X Y hr hlocks (by decide) (by decide) ?_ dL_authorise_22
      exact LC_x (k := 1) hk hx2 hG
    · rw [hk] at hu
      have eE : E = exn 3 := (Prod.mk.inj hu).1
      have eM : M1 = M := (Prod.mk.inj hu).2
      rw [eM] at Y
      subst eE
      refine vx_catch (name := exn 3) X.1.2.2.2.1 [⟨0, 12, 15, 13⟩, ⟨0, 12, 19, 19⟩] ⟨0, 12, 23, 24⟩ [] htab (fun z hz => by simp only [List.mem_cons, List.not_mem_nil, or_false] at hz; exact hz.elim (fun hz => by subst hz; exact Or.inr ⟨by decide, exn 1, X.1.2.2.2.2 _ kwL_authorise_1, hcx.1.2.2.1 (exn 3, exn 1) (by decide)⟩) (fun hz => by subst hz; exact Or.inr ⟨by decide, exn 2, X.1.2.2.2.2 _ kwL_authorise_2, hcx.1.2.2.1 (exn 3, exn 2) (by decide)⟩)) (by decide) (by decide) (X.1.2.2.2.2 _ kwL_authorise_3) ((hcx.1.2.1 (exn 3, exn 3) (by decide)).use rfl) hce hcv hcl ?_
      show W p l e _ s m _ below meth c H locs _ _ _ (F0 m 23 ls [.ref q9])
      refine lv_astore (lv' := [(5, .ref q9), (0, .ref (g.1 7 0)), (1, .int a), (2, .int b), (3, .int d), (4, .ref (g.1 13 0))]) hx hb dL_authorise_23 hl (by decide) rfl (fun ls hl => ?_)
      refine n_iconst hx hb 3 dL_authorise_25 (by decide) ?_
      refine m_iret X Y hr hlocks (by decide) (by decide) ?_ dL_authorise_26
      exact LC_x (k := 2) hk hx2 hG
  · obtain ⟨hc0, hr0, g1, hk1, hG1⟩ := hp
    have e13 : g1.1 13 0 = g.1 13 0 := hk1 13 0 (by decide) (by decide) (by decide) (by decide)
    subst hr0
    refine lv_i2l hx hb dL_authorise_10 rfl ?_
    have h13 := hG1.f13 (hpr 13 (by decide))
    rw [e13] at h13
    refine m_last X Y (h13) (vp_in_nI (show 0 < 1 by decide) (by decide)) dL_authorise_11 (fun H locs Y => ?_)
    rw [nI_cl (show 0 < 2147483648 by decide)] at Y
    have hG2 := hG1.setO (hpr 13 (by decide)) ((sp_authorise σ a b d).2.1.toInt64)
    rw [e13] at hG2
    refine lv_goto (tgt := 27) hx hb dL_authorise_12 (by decide) ?_
    refine n_iconst hx hb 0 dL_authorise_27 (by decide) ?_
    refine m_iret X Y hr hlocks (by decide) (by decide) ?_ dL_authorise_28
    exact LC_0 hc0 hk1 hG2
theorem kwL_capture_1 : Cond.classLink RL 13 "java/lang/IndexOutOfBoundsException" ∈ wsL_capture := List.mem_of_getElem? (i := 1) rfl
theorem kwL_capture_2 : Cond.classLink RL 19 "java/lang/IllegalArgumentException" ∈ wsL_capture := List.mem_of_getElem? (i := 2) rfl
theorem kwL_capture_3 : Cond.classLink RL 24 "java/lang/IllegalStateException" ∈ wsL_capture := List.mem_of_getElem? (i := 3) rfl
set_option maxHeartbeats 4000000 in
set_option maxRecDepth 100000 in
theorem c_L_capture (l : Launch) (hlt : l.stackTraces = false) (D : va_G) (kc : Nat → ClassId) (A : Nat → Prop) (e0 : Nat × Nat) (M : Mp) {pr : Nat → Prop} {σ τ : Sg} {th : Int32} {o : Int64} {g : Gh} {nn : Nat} (hG : G pr kc e0 σ τ th o g M) (hwf : WS nn σ) (hpr : ∀ t, t ≤ 13 → pr t) (a : Int32) (b : Int32) : Met l yL_capture wsL_capture ({ frames := 9, cells := 12, slots := 320, locals := 324 }) (mPre D kc A e0 M [.ref (g.1 7 0), .int a, .int b, .ref (g.1 13 0)]) (va_Qi (LC pr kc e0 τ th g (sp_capture σ a b).1 (sp_capture σ a b).2.1.toInt64 (sp_capture σ a b).2.2) (mB D A) A) 12 320 A := by
  refine va_MetW (cc := cL_capture) (maxL := 5) (ret := (some .int)) (hh := [(0, 10, 13, 13), (0, 10, 17, 19), (0, 10, 21, 24)]) (by decide) rfl ?_
  intro p e s m args below meth c s₁ B hml hv
  have htab := vx_table (x := yL_capture) B (atoms_spec (ws := wsL_capture) B.pre _ List.mem_cons_self)
  obtain ⟨rfl, hw, hK, hA, hcx⟩ := hv
  have X : mX p s m _ c cL_capture 5 RL wsL_capture D kc := ⟨⟨B.exec, B.bytes, hml, findClass_of_methodNamed B.named, atoms_spec (ws := wsL_capture) B.pre⟩, hK⟩
  have hx := B.exec
  have hb := B.bytes
  have hr := B.returns
  have hlocks := B.notSynchronized
  have Y : mY D A M s s.heap [] := ⟨hw, va_S.rf⟩
  have hl := lv_entry ([.ref (g.1 7 0), .int a, .int b, .ref (g.1 13 0)]) (n := 5) (Nat.le_of_ble_eq_true rfl)
  rw [lg_entry_eq]
  generalize (lg_sl ([.ref (g.1 7 0), .int a, .int b, .ref (g.1 13 0)]) ++ List.replicate (5 - (lg_sl ([.ref (g.1 7 0), .int a, .int b, .ref (g.1 13 0)])).length) Slot.unset).toArray = ls at hl ⊢
  have hl : lv_has ls 5 [(0, .ref (g.1 7 0)), (1, .int a), (2, .int b), (3, .ref (g.1 13 0))] := hl
  refine lv_aload_n hx hb dL_capture_0 rfl (lv_at hl 3 rfl) ?_
  refine n_iconst hx hb 0 dL_capture_1 (by decide) ?_
  refine lv_aload_n hx hb dL_capture_2 rfl (lv_at hl 0 rfl) ?_
  refine lv_iload_n hx hb dL_capture_3 rfl (lv_at hl 1 rfl) ?_
  refine lv_iload_n hx hb dL_capture_4 rfl (lv_at hl 2 rfl) ?_
  refine m_hVi (As := [.int a, .int b]) (rest := [.int (nI 0), .ref (g.1 13 0)]) X Y hA hcx (c_X7_capture l hlt D kc A e0 M hG hwf (fun t ht => hpr t (Nat.le_trans ht (by decide))) a b) (cwV 2 X.1.2.2.2.2 gL_capture_X7_capture rfl rfl rfl (by decide +kernel) ⟨Nat.le_of_ble_eq_true rfl, Nat.le_of_ble_eq_true rfl⟩) (hG.f7 (hpr 7 (by decide))) rfl rfl rfl hl.1 (Nat.le_of_ble_eq_true rfl) dL_capture_5 ⟨by decide, by decide⟩ (fun E ce q9 M1 H locs hpx Y hce hcv hcl => ?_) (fun r M1 H locs hp Y => ?_)
  · obtain ⟨hc, hu⟩ := hpx
    have hx1 := sp_capture_x σ a b
    have hx2 : (sp_capture σ a b).2.2 = σ := hx1.2 hc
    replace hx1 := hx1.1
    rcases (show (sp_capture σ a b).1 = 1 ∨ (sp_capture σ a b).1 = 2 ∨ (sp_capture σ a b).1 = 3 by omega) with hk | hk | hk
    · rw [hk] at hu
      have eE : E = exn 1 := (Prod.mk.inj hu).1
      have eM : M1 = M := (Prod.mk.inj hu).2
      rw [eM] at Y
      subst eE
      refine vx_catch (name := exn 1) X.1.2.2.2.1 [] ⟨0, 10, 13, 13⟩ [⟨0, 10, 17, 19⟩, ⟨0, 10, 21, 24⟩] htab (fun z hz => by cases hz) (by decide) (by decide) (X.1.2.2.2.2 _ kwL_capture_1) ((hcx.1.2.1 (exn 1, exn 1) (by decide)).use rfl) hce hcv hcl ?_
      show W p l e _ s m _ below meth c H locs _ _ _ (F0 m 13 ls [.ref q9])
      refine lv_astore (lv' := [(4, .ref q9), (0, .ref (g.1 7 0)), (1, .int a), (2, .int b), (3, .ref (g.1 13 0))]) hx hb dL_capture_13 hl (by decide) rfl (fun ls hl => ?_)
      refine n_iconst hx hb 1 dL_capture_15 (by decide) ?_
      refine m_iret X Y hr hlocks (by decide) (by decide) ?_ dL_capture_16
      exact LC_x (k := 0) hk hx2 hG
    · rw [hk] at hu
      have eE : E = exn 2 := (Prod.mk.inj hu).1
      have eM : M1 = M := (Prod.mk.inj hu).2
      rw [eM] at Y
      subst eE
      refine vx_catch (name := exn 2) X.1.2.2.2.1 [⟨0, 10, 13, 13⟩] ⟨0, 10, 17, 19⟩ [⟨0, 10, 21, 24⟩] htab (fun z hz => by simp only [List.mem_cons, List.not_mem_nil, or_false] at hz; subst hz; exact Or.inr ⟨by decide, exn 1, X.1.2.2.2.2 _ kwL_capture_1, hcx.1.2.2.1 (exn 2, exn 1) (by decide)⟩) (by decide) (by decide) (X.1.2.2.2.2 _ kwL_capture_2) ((hcx.1.2.1 (exn 2, exn 2) (by decide)).use rfl) hce hcv hcl ?_
      show W p l e _ s m _ below meth c H locs _ _ _ (F0 m 17 ls [.ref q9])
      refine lv_astore (lv' := [(4, .ref q9), (0, .ref (g.1 7 0)), (1, .int a), (2, .int b), (3, .ref (g.1 13 0))]) hx hb dL_capture_17 hl (by decide) rfl (fun ls hl => ?_)
      refine n_iconst hx hb 2 dL_capture_19 (by decide) ?_
      refine m_iret X Y hr hlocks (by decide) (by decide) ?_ dL_capture_20
      exact LC_x (k := 1) hk hx2 hG
    · rw [hk] at hu
      have eE : E = exn 3 := (Prod.mk.inj hu).1
      have eM : M1 = M := (Prod.mk.inj hu).2
      rw [eM] at Y
      subst eE
      refine vx_catch (name := exn 3) X.1.2.2.2.1 [⟨0, 10, 13, 13⟩, ⟨0, 10, 17, 19⟩] ⟨0, 10, 21, 24⟩ [] htab (fun z hz => by simp only [List.mem_cons, List.not_mem_nil, or_false] at hz; exact hz.elim (fun hz => by subst hz; exact Or.inr ⟨by decide, exn 1, X.1.2.2.2.2 _ kwL_capture_1, hcx.1.2.2.1 (exn 3, exn 1) (by decide)⟩) (fun hz => by subst hz; exact Or.inr ⟨by decide, exn 2, X.1.2.2.2.2 _ kwL_capture_2, hcx.1.2.2.1 (exn 3, exn 2) (by decide)⟩)) (by decide) (by decide) (X.1.2.2.2.2 _ kwL_capture_3) ((hcx.1.2.1 (exn 3, exn 3) (by decide)).use rfl) hce hcv hcl ?_
      show W p l e _ s m _ below meth c H locs _ _ _ (F0 m 21 ls [.ref q9])
      refine lv_astore (lv' := [(4, .ref q9), (0, .ref (g.1 7 0)), (1, .int a), (2, .int b), (3, .ref (g.1 13 0))]) hx hb dL_capture_21 hl (by decide) rfl (fun ls hl => ?_)
      refine n_iconst hx hb 3 dL_capture_23 (by decide) ?_
      refine m_iret X Y hr hlocks (by decide) (by decide) ?_ dL_capture_24
      exact LC_x (k := 2) hk hx2 hG
  · obtain ⟨hc0, hr0, g1, hk1, hG1⟩ := hp
    have e13 : g1.1 13 0 = g.1 13 0 := hk1 13 0 (by decide) (by decide) (by decide) (by decide)
    subst hr0
    refine lv_i2l hx hb dL_capture_8 rfl ?_
    have h13 := hG1.f13 (hpr 13 (by decide))
    rw [e13] at h13
    refine m_last X Y (h13) (vp_in_nI (show 0 < 1 by decide) (by decide)) dL_capture_9 (fun H locs Y => ?_)
    rw [nI_cl (show 0 < 2147483648 by decide)] at Y
    have hG2 := hG1.setO (hpr 13 (by decide)) ((sp_capture σ a b).2.1.toInt64)
    rw [e13] at hG2
    refine lv_goto (tgt := 25) hx hb dL_capture_10 (by decide) ?_
    refine n_iconst hx hb 0 dL_capture_25 (by decide) ?_
    refine m_iret X Y hr hlocks (by decide) (by decide) ?_ dL_capture_26
    exact LC_0 hc0 hk1 hG2
theorem kwL_cancel_1 : Cond.classLink RL 13 "java/lang/IndexOutOfBoundsException" ∈ wsL_cancel := List.mem_of_getElem? (i := 1) rfl
theorem kwL_cancel_2 : Cond.classLink RL 24 "java/lang/IllegalStateException" ∈ wsL_cancel := List.mem_of_getElem? (i := 2) rfl
set_option maxHeartbeats 4000000 in
set_option maxRecDepth 100000 in
theorem c_L_cancel (l : Launch) (hlt : l.stackTraces = false) (D : va_G) (kc : Nat → ClassId) (A : Nat → Prop) (e0 : Nat × Nat) (M : Mp) {pr : Nat → Prop} {σ τ : Sg} {th : Int32} {o : Int64} {g : Gh} {nn : Nat} (hG : G pr kc e0 σ τ th o g M) (hwf : WS nn σ) (hpr : ∀ t, t ≤ 13 → pr t) (a : Int32) : Met l yL_cancel wsL_cancel ({ frames := 9, cells := 12, slots := 320, locals := 322 }) (mPre D kc A e0 M [.ref (g.1 7 0), .int a, .ref (g.1 13 0)]) (va_Qi (LC pr kc e0 τ th g (sp_cancel σ a).1 (sp_cancel σ a).2.1.toInt64 (sp_cancel σ a).2.2) (mB D A) A) 12 320 A := by
  refine va_MetW (cc := cL_cancel) (maxL := 4) (ret := (some .int)) (hh := [(0, 9, 12, 13), (0, 9, 15, 24)]) (by decide) rfl ?_
  intro p e s m args below meth c s₁ B hml hv
  have htab := vx_table (x := yL_cancel) B (atoms_spec (ws := wsL_cancel) B.pre _ List.mem_cons_self)
  obtain ⟨rfl, hw, hK, hA, hcx⟩ := hv
  have X : mX p s m _ c cL_cancel 4 RL wsL_cancel D kc := ⟨⟨B.exec, B.bytes, hml, findClass_of_methodNamed B.named, atoms_spec (ws := wsL_cancel) B.pre⟩, hK⟩
  have hx := B.exec
  have hb := B.bytes
  have hr := B.returns
  have hlocks := B.notSynchronized
  have Y : mY D A M s s.heap [] := ⟨hw, va_S.rf⟩
  have hl := lv_entry ([.ref (g.1 7 0), .int a, .ref (g.1 13 0)]) (n := 4) (Nat.le_of_ble_eq_true rfl)
  rw [lg_entry_eq]
  generalize (lg_sl ([.ref (g.1 7 0), .int a, .ref (g.1 13 0)]) ++ List.replicate (4 - (lg_sl ([.ref (g.1 7 0), .int a, .ref (g.1 13 0)])).length) Slot.unset).toArray = ls at hl ⊢
  have hl : lv_has ls 4 [(0, .ref (g.1 7 0)), (1, .int a), (2, .ref (g.1 13 0))] := hl
  refine lv_aload_n hx hb dL_cancel_0 rfl (lv_at hl 2 rfl) ?_
  refine n_iconst hx hb 0 dL_cancel_1 (by decide) ?_
  refine lv_aload_n hx hb dL_cancel_2 rfl (lv_at hl 0 rfl) ?_
  refine lv_iload_n hx hb dL_cancel_3 rfl (lv_at hl 1 rfl) ?_
  refine m_hVi (As := [.int a]) (rest := [.int (nI 0), .ref (g.1 13 0)]) X Y hA hcx (c_X7_cancel l hlt D kc A e0 M hG hwf (fun t ht => hpr t (Nat.le_trans ht (by decide))) a) (cwV 1 X.1.2.2.2.2 gL_cancel_X7_cancel rfl rfl rfl (by decide +kernel) ⟨Nat.le_of_ble_eq_true rfl, Nat.le_of_ble_eq_true rfl⟩) (hG.f7 (hpr 7 (by decide))) rfl rfl rfl hl.1 (Nat.le_of_ble_eq_true rfl) dL_cancel_4 ⟨by decide, by decide⟩ (fun E ce q9 M1 H locs hpx Y hce hcv hcl => ?_) (fun r M1 H locs hp Y => ?_)
  · obtain ⟨hc, hu⟩ := hpx
    have hx1 := sp_cancel_x σ a
    have hx2 : (sp_cancel σ a).2.2 = σ := hx1.2 hc
    replace hx1 := hx1.1
    rcases (show (sp_cancel σ a).1 = 1 ∨ (sp_cancel σ a).1 = 2 by omega) with hk | hk
    · rw [hk] at hu
      have eE : E = exn 1 := (Prod.mk.inj hu).1
      have eM : M1 = M := (Prod.mk.inj hu).2
      rw [eM] at Y
      subst eE
      refine vx_catch (name := exn 1) X.1.2.2.2.1 [] ⟨0, 9, 12, 13⟩ [⟨0, 9, 15, 24⟩] htab (fun z hz => by cases hz) (by decide) (by decide) (X.1.2.2.2.2 _ kwL_cancel_1) ((hcx.1.2.1 (exn 1, exn 1) (by decide)).use rfl) hce hcv hcl ?_
      show W p l e _ s m _ below meth c H locs _ _ _ (F0 m 12 ls [.ref q9])
      refine lv_astore_n (lv' := [(3, .ref q9), (0, .ref (g.1 7 0)), (1, .int a), (2, .ref (g.1 13 0))]) hx hb dL_cancel_12 rfl hl (by decide) rfl (fun ls hl => ?_)
      refine n_iconst hx hb 1 dL_cancel_13 (by decide) ?_
      refine m_iret X Y hr hlocks (by decide) (by decide) ?_ dL_cancel_14
      exact LC_x (k := 0) hk hx2 hG
    · rw [hk] at hu
      have eE : E = exn 3 := (Prod.mk.inj hu).1
      have eM : M1 = M := (Prod.mk.inj hu).2
      rw [eM] at Y
      subst eE
      refine vx_catch (name := exn 3) X.1.2.2.2.1 [⟨0, 9, 12, 13⟩] ⟨0, 9, 15, 24⟩ [] htab (fun z hz => by simp only [List.mem_cons, List.not_mem_nil, or_false] at hz; subst hz; exact Or.inr ⟨by decide, exn 1, X.1.2.2.2.2 _ kwL_cancel_1, hcx.1.2.2.1 (exn 3, exn 1) (by decide)⟩) (by decide) (by decide) (X.1.2.2.2.2 _ kwL_cancel_2) ((hcx.1.2.1 (exn 3, exn 3) (by decide)).use rfl) hce hcv hcl ?_
      show W p l e _ s m _ below meth c H locs _ _ _ (F0 m 15 ls [.ref q9])
      refine lv_astore_n (lv' := [(3, .ref q9), (0, .ref (g.1 7 0)), (1, .int a), (2, .ref (g.1 13 0))]) hx hb dL_cancel_15 rfl hl (by decide) rfl (fun ls hl => ?_)
      refine n_iconst hx hb 2 dL_cancel_16 (by decide) ?_
      refine m_iret X Y hr hlocks (by decide) (by decide) ?_ dL_cancel_17
      exact LC_x (k := 1) hk hx2 hG
  · obtain ⟨hc0, hr0, g1, hk1, hG1⟩ := hp
    have e13 : g1.1 13 0 = g.1 13 0 := hk1 13 0 (by decide) (by decide) (by decide) (by decide)
    subst hr0
    refine lv_i2l hx hb dL_cancel_7 rfl ?_
    have h13 := hG1.f13 (hpr 13 (by decide))
    rw [e13] at h13
    refine m_last X Y (h13) (vp_in_nI (show 0 < 1 by decide) (by decide)) dL_cancel_8 (fun H locs Y => ?_)
    rw [nI_cl (show 0 < 2147483648 by decide)] at Y
    have hG2 := hG1.setO (hpr 13 (by decide)) ((sp_cancel σ a).2.1.toInt64)
    rw [e13] at hG2
    refine lv_goto (tgt := 18) hx hb dL_cancel_9 (by decide) ?_
    refine n_iconst hx hb 0 dL_cancel_18 (by decide) ?_
    refine m_iret X Y hr hlocks (by decide) (by decide) ?_ dL_cancel_19
    exact LC_0 hc0 hk1 hG2
theorem kwL_refund_1 : Cond.classLink RL 13 "java/lang/IndexOutOfBoundsException" ∈ wsL_refund := List.mem_of_getElem? (i := 1) rfl
theorem kwL_refund_2 : Cond.classLink RL 19 "java/lang/IllegalArgumentException" ∈ wsL_refund := List.mem_of_getElem? (i := 2) rfl
theorem kwL_refund_3 : Cond.classLink RL 24 "java/lang/IllegalStateException" ∈ wsL_refund := List.mem_of_getElem? (i := 3) rfl
set_option maxHeartbeats 4000000 in
set_option maxRecDepth 100000 in
theorem c_L_refund (l : Launch) (hlt : l.stackTraces = false) (D : va_G) (kc : Nat → ClassId) (A : Nat → Prop) (e0 : Nat × Nat) (M : Mp) {pr : Nat → Prop} {σ τ : Sg} {th : Int32} {o : Int64} {g : Gh} {nn : Nat} (hG : G pr kc e0 σ τ th o g M) (hwf : WS nn σ) (hpr : ∀ t, t ≤ 13 → pr t) (a : Int32) (b : Int32) : Met l yL_refund wsL_refund ({ frames := 9, cells := 12, slots := 320, locals := 323 }) (mPre D kc A e0 M [.ref (g.1 7 0), .int a, .int b, .ref (g.1 13 0)]) (va_Qi (LC pr kc e0 τ th g (sp_refund σ a b).1 (sp_refund σ a b).2.1.toInt64 (sp_refund σ a b).2.2) (mB D A) A) 12 320 A := by
  refine va_MetW (cc := cL_refund) (maxL := 5) (ret := (some .int)) (hh := [(0, 10, 13, 13), (0, 10, 17, 19), (0, 10, 21, 24)]) (by decide) rfl ?_
  intro p e s m args below meth c s₁ B hml hv
  have htab := vx_table (x := yL_refund) B (atoms_spec (ws := wsL_refund) B.pre _ List.mem_cons_self)
  obtain ⟨rfl, hw, hK, hA, hcx⟩ := hv
  have X : mX p s m _ c cL_refund 5 RL wsL_refund D kc := ⟨⟨B.exec, B.bytes, hml, findClass_of_methodNamed B.named, atoms_spec (ws := wsL_refund) B.pre⟩, hK⟩
  have hx := B.exec
  have hb := B.bytes
  have hr := B.returns
  have hlocks := B.notSynchronized
  have Y : mY D A M s s.heap [] := ⟨hw, va_S.rf⟩
  have hl := lv_entry ([.ref (g.1 7 0), .int a, .int b, .ref (g.1 13 0)]) (n := 5) (Nat.le_of_ble_eq_true rfl)
  rw [lg_entry_eq]
  generalize (lg_sl ([.ref (g.1 7 0), .int a, .int b, .ref (g.1 13 0)]) ++ List.replicate (5 - (lg_sl ([.ref (g.1 7 0), .int a, .int b, .ref (g.1 13 0)])).length) Slot.unset).toArray = ls at hl ⊢
  have hl : lv_has ls 5 [(0, .ref (g.1 7 0)), (1, .int a), (2, .int b), (3, .ref (g.1 13 0))] := hl
  refine lv_aload_n hx hb dL_refund_0 rfl (lv_at hl 3 rfl) ?_
  refine n_iconst hx hb 0 dL_refund_1 (by decide) ?_
  refine lv_aload_n hx hb dL_refund_2 rfl (lv_at hl 0 rfl) ?_
  refine lv_iload_n hx hb dL_refund_3 rfl (lv_at hl 1 rfl) ?_
  refine lv_iload_n hx hb dL_refund_4 rfl (lv_at hl 2 rfl) ?_
  refine m_hVi (As := [.int a, .int b]) (rest := [.int (nI 0), .ref (g.1 13 0)]) X Y hA hcx (c_X7_refund l hlt D kc A e0 M hG hwf (fun t ht => hpr t (Nat.le_trans ht (by decide))) a b) (cwV 2 X.1.2.2.2.2 gL_refund_X7_refund rfl rfl rfl (by decide +kernel) ⟨Nat.le_of_ble_eq_true rfl, Nat.le_of_ble_eq_true rfl⟩) (hG.f7 (hpr 7 (by decide))) rfl rfl rfl hl.1 (Nat.le_of_ble_eq_true rfl) dL_refund_5 ⟨by decide, by decide⟩ (fun E ce q9 M1 H locs hpx Y hce hcv hcl => ?_) (fun r M1 H locs hp Y => ?_)
  · obtain ⟨hc, hu⟩ := hpx
    have hx1 := sp_refund_x σ a b
    have hx2 : (sp_refund σ a b).2.2 = σ := hx1.2 hc
    replace hx1 := hx1.1
    rcases (show (sp_refund σ a b).1 = 1 ∨ (sp_refund σ a b).1 = 2 ∨ (sp_refund σ a b).1 = 3 by omega) with hk | hk | hk
    · rw [hk] at hu
      have eE : E = exn 1 := (Prod.mk.inj hu).1
      have eM : M1 = M := (Prod.mk.inj hu).2
      rw [eM] at Y
      subst eE
      refine vx_catch (name := exn 1) X.1.2.2.2.1 [] ⟨0, 10, 13, 13⟩ [⟨0, 10, 17, 19⟩, ⟨0, 10, 21, 24⟩] htab (fun z hz => by cases hz) (by decide) (by decide) (X.1.2.2.2.2 _ kwL_refund_1) ((hcx.1.2.1 (exn 1, exn 1) (by decide)).use rfl) hce hcv hcl ?_
      show W p l e _ s m _ below meth c H locs _ _ _ (F0 m 13 ls [.ref q9])
      refine lv_astore (lv' := [(4, .ref q9), (0, .ref (g.1 7 0)), (1, .int a), (2, .int b), (3, .ref (g.1 13 0))]) hx hb dL_refund_13 hl (by decide) rfl (fun ls hl => ?_)
      refine n_iconst hx hb 1 dL_refund_15 (by decide) ?_
      refine m_iret X Y hr hlocks (by decide) (by decide) ?_ dL_refund_16
      exact LC_x (k := 0) hk hx2 hG
    · rw [hk] at hu
      have eE : E = exn 2 := (Prod.mk.inj hu).1
      have eM : M1 = M := (Prod.mk.inj hu).2
      rw [eM] at Y
      subst eE
      refine vx_catch (name := exn 2) X.1.2.2.2.1 [⟨0, 10, 13, 13⟩] ⟨0, 10, 17, 19⟩ [⟨0, 10, 21, 24⟩] htab (fun z hz => by simp only [List.mem_cons, List.not_mem_nil, or_false] at hz; subst hz; exact Or.inr ⟨by decide, exn 1, X.1.2.2.2.2 _ kwL_refund_1, hcx.1.2.2.1 (exn 2, exn 1) (by decide)⟩) (by decide) (by decide) (X.1.2.2.2.2 _ kwL_refund_2) ((hcx.1.2.1 (exn 2, exn 2) (by decide)).use rfl) hce hcv hcl ?_
      show W p l e _ s m _ below meth c H locs _ _ _ (F0 m 17 ls [.ref q9])
      refine lv_astore (lv' := [(4, .ref q9), (0, .ref (g.1 7 0)), (1, .int a), (2, .int b), (3, .ref (g.1 13 0))]) hx hb dL_refund_17 hl (by decide) rfl (fun ls hl => ?_)
      refine n_iconst hx hb 2 dL_refund_19 (by decide) ?_
      refine m_iret X Y hr hlocks (by decide) (by decide) ?_ dL_refund_20
      exact LC_x (k := 1) hk hx2 hG
    · rw [hk] at hu
      have eE : E = exn 3 := (Prod.mk.inj hu).1
      have eM : M1 = M := (Prod.mk.inj hu).2
      rw [eM] at Y
      subst eE
      refine vx_catch (name := exn 3) X.1.2.2.2.1 [⟨0, 10, 13, 13⟩, ⟨0, 10, 17, 19⟩] ⟨0, 10, 21, 24⟩ [] htab (fun z hz => by simp only [List.mem_cons, List.not_mem_nil, or_false] at hz; exact hz.elim (fun hz => by subst hz; exact Or.inr ⟨by decide, exn 1, X.1.2.2.2.2 _ kwL_refund_1, hcx.1.2.2.1 (exn 3, exn 1) (by decide)⟩) (fun hz => by subst hz; exact Or.inr ⟨by decide, exn 2, X.1.2.2.2.2 _ kwL_refund_2, hcx.1.2.2.1 (exn 3, exn 2) (by decide)⟩)) (by decide) (by decide) (X.1.2.2.2.2 _ kwL_refund_3) ((hcx.1.2.1 (exn 3, exn 3) (by decide)).use rfl) hce hcv hcl ?_
      show W p l e _ s m _ below meth c H locs _ _ _ (F0 m 21 ls [.ref q9])
      refine lv_astore (lv' := [(4, .ref q9), (0, .ref (g.1 7 0)), (1, .int a), (2, .int b), (3, .ref (g.1 13 0))]) hx hb dL_refund_21 hl (by decide) rfl (fun ls hl => ?_)
      refine n_iconst hx hb 3 dL_refund_23 (by decide) ?_
      refine m_iret X Y hr hlocks (by decide) (by decide) ?_ dL_refund_24
      exact LC_x (k := 2) hk hx2 hG
  · obtain ⟨hc0, hr0, g1, hk1, hG1⟩ := hp
    have e13 : g1.1 13 0 = g.1 13 0 := hk1 13 0 (by decide) (by decide) (by decide) (by decide)
    subst hr0
    refine lv_i2l hx hb dL_refund_8 rfl ?_
    have h13 := hG1.f13 (hpr 13 (by decide))
    rw [e13] at h13
    refine m_last X Y (h13) (vp_in_nI (show 0 < 1 by decide) (by decide)) dL_refund_9 (fun H locs Y => ?_)
    rw [nI_cl (show 0 < 2147483648 by decide)] at Y
    have hG2 := hG1.setO (hpr 13 (by decide)) ((sp_refund σ a b).2.1.toInt64)
    rw [e13] at hG2
    refine lv_goto (tgt := 25) hx hb dL_refund_10 (by decide) ?_
    refine n_iconst hx hb 0 dL_refund_25 (by decide) ?_
    refine m_iret X Y hr hlocks (by decide) (by decide) ?_ dL_refund_26
    exact LC_0 hc0 hk1 hG2
theorem kwL_dispute_1 : Cond.classLink RL 13 "java/lang/IndexOutOfBoundsException" ∈ wsL_dispute := List.mem_of_getElem? (i := 1) rfl
theorem kwL_dispute_2 : Cond.classLink RL 19 "java/lang/IllegalArgumentException" ∈ wsL_dispute := List.mem_of_getElem? (i := 2) rfl
theorem kwL_dispute_3 : Cond.classLink RL 24 "java/lang/IllegalStateException" ∈ wsL_dispute := List.mem_of_getElem? (i := 3) rfl
set_option maxHeartbeats 4000000 in
set_option maxRecDepth 100000 in
theorem c_L_dispute (l : Launch) (hlt : l.stackTraces = false) (D : va_G) (kc : Nat → ClassId) (A : Nat → Prop) (e0 : Nat × Nat) (M : Mp) {pr : Nat → Prop} {σ τ : Sg} {th : Int32} {o : Int64} {g : Gh} {nn : Nat} (hG : G pr kc e0 σ τ th o g M) (hwf : WS nn σ) (hpr : ∀ t, t ≤ 13 → pr t) (a : Int32) (b : Int32) : Met l yL_dispute wsL_dispute ({ frames := 9, cells := 12, slots := 320, locals := 324 }) (mPre D kc A e0 M [.ref (g.1 7 0), .int a, .int b, .ref (g.1 13 0)]) (va_Qi (LC pr kc e0 τ th g (sp_dispute σ a b).1 (sp_dispute σ a b).2.1.toInt64 (sp_dispute σ a b).2.2) (mB D A) A) 12 320 A := by
  refine va_MetW (cc := cL_dispute) (maxL := 5) (ret := (some .int)) (hh := [(0, 10, 13, 13), (0, 10, 17, 19), (0, 10, 21, 24)]) (by decide) rfl ?_
  intro p e s m args below meth c s₁ B hml hv
  have htab := vx_table (x := yL_dispute) B (atoms_spec (ws := wsL_dispute) B.pre _ List.mem_cons_self)
  obtain ⟨rfl, hw, hK, hA, hcx⟩ := hv
  have X : mX p s m _ c cL_dispute 5 RL wsL_dispute D kc := ⟨⟨B.exec, B.bytes, hml, findClass_of_methodNamed B.named, atoms_spec (ws := wsL_dispute) B.pre⟩, hK⟩
  have hx := B.exec
  have hb := B.bytes
  have hr := B.returns
  have hlocks := B.notSynchronized
  have Y : mY D A M s s.heap [] := ⟨hw, va_S.rf⟩
  have hl := lv_entry ([.ref (g.1 7 0), .int a, .int b, .ref (g.1 13 0)]) (n := 5) (Nat.le_of_ble_eq_true rfl)
  rw [lg_entry_eq]
  generalize (lg_sl ([.ref (g.1 7 0), .int a, .int b, .ref (g.1 13 0)]) ++ List.replicate (5 - (lg_sl ([.ref (g.1 7 0), .int a, .int b, .ref (g.1 13 0)])).length) Slot.unset).toArray = ls at hl ⊢
  have hl : lv_has ls 5 [(0, .ref (g.1 7 0)), (1, .int a), (2, .int b), (3, .ref (g.1 13 0))] := hl
  refine lv_aload_n hx hb dL_dispute_0 rfl (lv_at hl 3 rfl) ?_
  refine n_iconst hx hb 0 dL_dispute_1 (by decide) ?_
  refine lv_aload_n hx hb dL_dispute_2 rfl (lv_at hl 0 rfl) ?_
  refine lv_iload_n hx hb dL_dispute_3 rfl (lv_at hl 1 rfl) ?_
  refine lv_iload_n hx hb dL_dispute_4 rfl (lv_at hl 2 rfl) ?_
  refine m_hVi (As := [.int a, .int b]) (rest := [.int (nI 0), .ref (g.1 13 0)]) X Y hA hcx (c_X7_dispute l hlt D kc A e0 M hG hwf (fun t ht => hpr t (Nat.le_trans ht (by decide))) a b) (cwV 2 X.1.2.2.2.2 gL_dispute_X7_dispute rfl rfl rfl (by decide +kernel) ⟨Nat.le_of_ble_eq_true rfl, Nat.le_of_ble_eq_true rfl⟩) (hG.f7 (hpr 7 (by decide))) rfl rfl rfl hl.1 (Nat.le_of_ble_eq_true rfl) dL_dispute_5 ⟨by decide, by decide⟩ (fun E ce q9 M1 H locs hpx Y hce hcv hcl => ?_) (fun r M1 H locs hp Y => ?_)
  · obtain ⟨hc, hu⟩ := hpx
    have hx1 := sp_dispute_x σ a b
    have hx2 : (sp_dispute σ a b).2.2 = σ := hx1.2 hc
    replace hx1 := hx1.1
    rcases (show (sp_dispute σ a b).1 = 1 ∨ (sp_dispute σ a b).1 = 2 ∨ (sp_dispute σ a b).1 = 3 by omega) with hk | hk | hk
    · rw [hk] at hu
      have eE : E = exn 1 := (Prod.mk.inj hu).1
      have eM : M1 = M := (Prod.mk.inj hu).2
      rw [eM] at Y
      subst eE
      refine vx_catch (name := exn 1) X.1.2.2.2.1 [] ⟨0, 10, 13, 13⟩ [⟨0, 10, 17, 19⟩, ⟨0, 10, 21, 24⟩] htab (fun z hz => by cases hz) (by decide) (by decide) (X.1.2.2.2.2 _ kwL_dispute_1) ((hcx.1.2.1 (exn 1, exn 1) (by decide)).use rfl) hce hcv hcl ?_
      show W p l e _ s m _ below meth c H locs _ _ _ (F0 m 13 ls [.ref q9])
      refine lv_astore (lv' := [(4, .ref q9), (0, .ref (g.1 7 0)), (1, .int a), (2, .int b), (3, .ref (g.1 13 0))]) hx hb dL_dispute_13 hl (by decide) rfl (fun ls hl => ?_)
      refine n_iconst hx hb 1 dL_dispute_15 (by decide) ?_
      refine m_iret X Y hr hlocks (by decide) (by decide) ?_ dL_dispute_16
      exact LC_x (k := 0) hk hx2 hG
    · rw [hk] at hu
      have eE : E = exn 2 := (Prod.mk.inj hu).1
      have eM : M1 = M := (Prod.mk.inj hu).2
      rw [eM] at Y
      subst eE
      refine vx_catch (name := exn 2) X.1.2.2.2.1 [⟨0, 10, 13, 13⟩] ⟨0, 10, 17, 19⟩ [⟨0, 10, 21, 24⟩] htab (fun z hz => by simp only [List.mem_cons, List.not_mem_nil, or_false] at hz; subst hz; exact Or.inr ⟨by decide, exn 1, X.1.2.2.2.2 _ kwL_dispute_1, hcx.1.2.2.1 (exn 2, exn 1) (by decide)⟩) (by decide) (by decide) (X.1.2.2.2.2 _ kwL_dispute_2) ((hcx.1.2.1 (exn 2, exn 2) (by decide)).use rfl) hce hcv hcl ?_
      show W p l e _ s m _ below meth c H locs _ _ _ (F0 m 17 ls [.ref q9])
      refine lv_astore (lv' := [(4, .ref q9), (0, .ref (g.1 7 0)), (1, .int a), (2, .int b), (3, .ref (g.1 13 0))]) hx hb dL_dispute_17 hl (by decide) rfl (fun ls hl => ?_)
      refine n_iconst hx hb 2 dL_dispute_19 (by decide) ?_
      refine m_iret X Y hr hlocks (by decide) (by decide) ?_ dL_dispute_20
      exact LC_x (k := 1) hk hx2 hG
    · rw [hk] at hu
      have eE : E = exn 3 := (Prod.mk.inj hu).1
      have eM : M1 = M := (Prod.mk.inj hu).2
      rw [eM] at Y
      subst eE
      refine vx_catch (name := exn 3) X.1.2.2.2.1 [⟨0, 10, 13, 13⟩, ⟨0, 10, 17, 19⟩] ⟨0, 10, 21, 24⟩ [] htab (fun z hz => by simp only [List.mem_cons, List.not_mem_nil, or_false] at hz; exact hz.elim (fun hz => by subst hz; exact Or.inr ⟨by decide, exn 1, X.1.2.2.2.2 _ kwL_dispute_1, hcx.1.2.2.1 (exn 3, exn 1) (by decide)⟩) (fun hz => by subst hz; exact Or.inr ⟨by decide, exn 2, X.1.2.2.2.2 _ kwL_dispute_2, hcx.1.2.2.1 (exn 3, exn 2) (by decide)⟩)) (by decide) (by decide) (X.1.2.2.2.2 _ kwL_dispute_3) ((hcx.1.2.1 (exn 3, exn 3) (by decide)).use rfl) hce hcv hcl ?_
      show W p l e _ s m _ below meth c H locs _ _ _ (F0 m 21 ls [.ref q9])
      refine lv_astore (lv' := [(4, .ref q9), (0, .ref (g.1 7 0)), (1, .int a), (2, .int b), (3, .ref (g.1 13 0))]) hx hb dL_dispute_21 hl (by decide) rfl (fun ls hl => ?_)
      refine n_iconst hx hb 3 dL_dispute_23 (by decide) ?_
      refine m_iret X Y hr hlocks (by decide) (by decide) ?_ dL_dispute_24
      exact LC_x (k := 2) hk hx2 hG
  · obtain ⟨hc0, hr0, g1, hk1, hG1⟩ := hp
    have e13 : g1.1 13 0 = g.1 13 0 := hk1 13 0 (by decide) (by decide) (by decide) (by decide)
    subst hr0
    refine lv_i2l hx hb dL_dispute_8 rfl ?_
    have h13 := hG1.f13 (hpr 13 (by decide))
    rw [e13] at h13
    refine m_last X Y (h13) (vp_in_nI (show 0 < 1 by decide) (by decide)) dL_dispute_9 (fun H locs Y => ?_)
    rw [nI_cl (show 0 < 2147483648 by decide)] at Y
    have hG2 := hG1.setO (hpr 13 (by decide)) ((sp_dispute σ a b).2.1.toInt64)
    rw [e13] at hG2
    refine lv_goto (tgt := 25) hx hb dL_dispute_10 (by decide) ?_
    refine n_iconst hx hb 0 dL_dispute_25 (by decide) ?_
    refine m_iret X Y hr hlocks (by decide) (by decide) ?_ dL_dispute_26
    exact LC_0 hc0 hk1 hG2
theorem kwL_answer_1 : Cond.classLink RL 13 "java/lang/IndexOutOfBoundsException" ∈ wsL_answer := List.mem_of_getElem? (i := 1) rfl
theorem kwL_answer_2 : Cond.classLink RL 24 "java/lang/IllegalStateException" ∈ wsL_answer := List.mem_of_getElem? (i := 2) rfl
set_option maxHeartbeats 4000000 in
set_option maxRecDepth 100000 in
theorem c_L_answer (l : Launch) (hlt : l.stackTraces = false) (D : va_G) (kc : Nat → ClassId) (A : Nat → Prop) (e0 : Nat × Nat) (M : Mp) {pr : Nat → Prop} {σ τ : Sg} {th : Int32} {o : Int64} {g : Gh} {nn : Nat} (hG : G pr kc e0 σ τ th o g M) (hwf : WS nn σ) (hpr : ∀ t, t ≤ 13 → pr t) (a : Int32) : Met l yL_answer wsL_answer ({ frames := 9, cells := 12, slots := 320, locals := 322 }) (mPre D kc A e0 M [.ref (g.1 7 0), .int a, .ref (g.1 13 0)]) (va_Qi (LC pr kc e0 τ th g (sp_answer σ a).1 (sp_answer σ a).2.1.toInt64 (sp_answer σ a).2.2) (mB D A) A) 12 320 A := by
  refine va_MetW (cc := cL_answer) (maxL := 4) (ret := (some .int)) (hh := [(0, 9, 12, 13), (0, 9, 15, 24)]) (by decide) rfl ?_
  intro p e s m args below meth c s₁ B hml hv
  have htab := vx_table (x := yL_answer) B (atoms_spec (ws := wsL_answer) B.pre _ List.mem_cons_self)
  obtain ⟨rfl, hw, hK, hA, hcx⟩ := hv
  have X : mX p s m _ c cL_answer 4 RL wsL_answer D kc := ⟨⟨B.exec, B.bytes, hml, findClass_of_methodNamed B.named, atoms_spec (ws := wsL_answer) B.pre⟩, hK⟩
  have hx := B.exec
  have hb := B.bytes
  have hr := B.returns
  have hlocks := B.notSynchronized
  have Y : mY D A M s s.heap [] := ⟨hw, va_S.rf⟩
  have hl := lv_entry ([.ref (g.1 7 0), .int a, .ref (g.1 13 0)]) (n := 4) (Nat.le_of_ble_eq_true rfl)
  rw [lg_entry_eq]
  generalize (lg_sl ([.ref (g.1 7 0), .int a, .ref (g.1 13 0)]) ++ List.replicate (4 - (lg_sl ([.ref (g.1 7 0), .int a, .ref (g.1 13 0)])).length) Slot.unset).toArray = ls at hl ⊢
  have hl : lv_has ls 4 [(0, .ref (g.1 7 0)), (1, .int a), (2, .ref (g.1 13 0))] := hl
  refine lv_aload_n hx hb dL_answer_0 rfl (lv_at hl 2 rfl) ?_
  refine n_iconst hx hb 0 dL_answer_1 (by decide) ?_
  refine lv_aload_n hx hb dL_answer_2 rfl (lv_at hl 0 rfl) ?_
  refine lv_iload_n hx hb dL_answer_3 rfl (lv_at hl 1 rfl) ?_
  refine m_hVi (As := [.int a]) (rest := [.int (nI 0), .ref (g.1 13 0)]) X Y hA hcx (c_X7_answer l hlt D kc A e0 M hG hwf (fun t ht => hpr t (Nat.le_trans ht (by decide))) a) (cwV 1 X.1.2.2.2.2 gL_answer_X7_answer rfl rfl rfl (by decide +kernel) ⟨Nat.le_of_ble_eq_true rfl, Nat.le_of_ble_eq_true rfl⟩) (hG.f7 (hpr 7 (by decide))) rfl rfl rfl hl.1 (Nat.le_of_ble_eq_true rfl) dL_answer_4 ⟨by decide, by decide⟩ (fun E ce q9 M1 H locs hpx Y hce hcv hcl => ?_) (fun r M1 H locs hp Y => ?_)
  · obtain ⟨hc, hu⟩ := hpx
    have hx1 := sp_answer_x σ a
    have hx2 : (sp_answer σ a).2.2 = σ := hx1.2 hc
    replace hx1 := hx1.1
    rcases (show (sp_answer σ a).1 = 1 ∨ (sp_answer σ a).1 = 2 by omega) with hk | hk
    · rw [hk] at hu
      have eE : E = exn 1 := (Prod.mk.inj hu).1
      have eM : M1 = M := (Prod.mk.inj hu).2
      rw [eM] at Y
      subst eE
      refine vx_catch (name := exn 1) X.1.2.2.2.1 [] ⟨0, 9, 12, 13⟩ [⟨0, 9, 15, 24⟩] htab (fun z hz => by cases hz) (by decide) (by decide) (X.1.2.2.2.2 _ kwL_answer_1) ((hcx.1.2.1 (exn 1, exn 1) (by decide)).use rfl) hce hcv hcl ?_
      show W p l e _ s m _ below meth c H locs _ _ _ (F0 m 12 ls [.ref q9])
      refine lv_astore_n (lv' := [(3, .ref q9), (0, .ref (g.1 7 0)), (1, .int a), (2, .ref (g.1 13 0))]) hx hb dL_answer_12 rfl hl (by decide) rfl (fun ls hl => ?_)
      refine n_iconst hx hb 1 dL_answer_13 (by decide) ?_
      refine m_iret X Y hr hlocks (by decide) (by decide) ?_ dL_answer_14
      exact LC_x (k := 0) hk hx2 hG
    · rw [hk] at hu
      have eE : E = exn 3 := (Prod.mk.inj hu).1
      have eM : M1 = M := (Prod.mk.inj hu).2
      rw [eM] at Y
      subst eE
      refine vx_catch (name := exn 3) X.1.2.2.2.1 [⟨0, 9, 12, 13⟩] ⟨0, 9, 15, 24⟩ [] htab (fun z hz => by simp only [List.mem_cons, List.not_mem_nil, or_false] at hz; subst hz; exact Or.inr ⟨by decide, exn 1, X.1.2.2.2.2 _ kwL_answer_1, hcx.1.2.2.1 (exn 3, exn 1) (by decide)⟩) (by decide) (by decide) (X.1.2.2.2.2 _ kwL_answer_2) ((hcx.1.2.1 (exn 3, exn 3) (by decide)).use rfl) hce hcv hcl ?_
      show W p l e _ s m _ below meth c H locs _ _ _ (F0 m 15 ls [.ref q9])
      refine lv_astore_n (lv' := [(3, .ref q9), (0, .ref (g.1 7 0)), (1, .int a), (2, .ref (g.1 13 0))]) hx hb dL_answer_15 rfl hl (by decide) rfl (fun ls hl => ?_)
      refine n_iconst hx hb 2 dL_answer_16 (by decide) ?_
      refine m_iret X Y hr hlocks (by decide) (by decide) ?_ dL_answer_17
      exact LC_x (k := 1) hk hx2 hG
  · obtain ⟨hc0, hr0, g1, hk1, hG1⟩ := hp
    have e13 : g1.1 13 0 = g.1 13 0 := hk1 13 0 (by decide) (by decide) (by decide) (by decide)
    subst hr0
    refine lv_i2l hx hb dL_answer_7 rfl ?_
    have h13 := hG1.f13 (hpr 13 (by decide))
    rw [e13] at h13
    refine m_last X Y (h13) (vp_in_nI (show 0 < 1 by decide) (by decide)) dL_answer_8 (fun H locs Y => ?_)
    rw [nI_cl (show 0 < 2147483648 by decide)] at Y
    have hG2 := hG1.setO (hpr 13 (by decide)) ((sp_answer σ a).2.1.toInt64)
    rw [e13] at hG2
    refine lv_goto (tgt := 18) hx hb dL_answer_9 (by decide) ?_
    refine n_iconst hx hb 0 dL_answer_18 (by decide) ?_
    refine m_iret X Y hr hlocks (by decide) (by decide) ?_ dL_answer_19
    exact LC_0 hc0 hk1 hG2
theorem kwL_press_1 : Cond.classLink RL 13 "java/lang/IndexOutOfBoundsException" ∈ wsL_press := List.mem_of_getElem? (i := 1) rfl
theorem kwL_press_2 : Cond.classLink RL 24 "java/lang/IllegalStateException" ∈ wsL_press := List.mem_of_getElem? (i := 2) rfl
set_option maxHeartbeats 4000000 in
set_option maxRecDepth 100000 in
theorem c_L_press (l : Launch) (hlt : l.stackTraces = false) (D : va_G) (kc : Nat → ClassId) (A : Nat → Prop) (e0 : Nat × Nat) (M : Mp) {pr : Nat → Prop} {σ τ : Sg} {th : Int32} {o : Int64} {g : Gh} {nn : Nat} (hG : G pr kc e0 σ τ th o g M) (hwf : WS nn σ) (hpr : ∀ t, t ≤ 13 → pr t) (a : Int32) : Met l yL_press wsL_press ({ frames := 9, cells := 12, slots := 320, locals := 322 }) (mPre D kc A e0 M [.ref (g.1 7 0), .int a, .ref (g.1 13 0)]) (va_Qi (LC pr kc e0 τ th g (sp_press σ a).1 (sp_press σ a).2.1.toInt64 (sp_press σ a).2.2) (mB D A) A) 12 320 A := by
  refine va_MetW (cc := cL_press) (maxL := 4) (ret := (some .int)) (hh := [(0, 9, 12, 13), (0, 9, 15, 24)]) (by decide) rfl ?_
  intro p e s m args below meth c s₁ B hml hv
  have htab := vx_table (x := yL_press) B (atoms_spec (ws := wsL_press) B.pre _ List.mem_cons_self)
  obtain ⟨rfl, hw, hK, hA, hcx⟩ := hv
  have X : mX p s m _ c cL_press 4 RL wsL_press D kc := ⟨⟨B.exec, B.bytes, hml, findClass_of_methodNamed B.named, atoms_spec (ws := wsL_press) B.pre⟩, hK⟩
  have hx := B.exec
  have hb := B.bytes
  have hr := B.returns
  have hlocks := B.notSynchronized
  have Y : mY D A M s s.heap [] := ⟨hw, va_S.rf⟩
  have hl := lv_entry ([.ref (g.1 7 0), .int a, .ref (g.1 13 0)]) (n := 4) (Nat.le_of_ble_eq_true rfl)
  rw [lg_entry_eq]
  generalize (lg_sl ([.ref (g.1 7 0), .int a, .ref (g.1 13 0)]) ++ List.replicate (4 - (lg_sl ([.ref (g.1 7 0), .int a, .ref (g.1 13 0)])).length) Slot.unset).toArray = ls at hl ⊢
  have hl : lv_has ls 4 [(0, .ref (g.1 7 0)), (1, .int a), (2, .ref (g.1 13 0))] := hl
  refine lv_aload_n hx hb dL_press_0 rfl (lv_at hl 2 rfl) ?_
  refine n_iconst hx hb 0 dL_press_1 (by decide) ?_
  refine lv_aload_n hx hb dL_press_2 rfl (lv_at hl 0 rfl) ?_
  refine lv_iload_n hx hb dL_press_3 rfl (lv_at hl 1 rfl) ?_
  refine m_hVi (As := [.int a]) (rest := [.int (nI 0), .ref (g.1 13 0)]) X Y hA hcx (c_X7_press l hlt D kc A e0 M hG hwf (fun t ht => hpr t (Nat.le_trans ht (by decide))) a) (cwV 1 X.1.2.2.2.2 gL_press_X7_press rfl rfl rfl (by decide +kernel) ⟨Nat.le_of_ble_eq_true rfl, Nat.le_of_ble_eq_true rfl⟩) (hG.f7 (hpr 7 (by decide))) rfl rfl rfl hl.1 (Nat.le_of_ble_eq_true rfl) dL_press_4 ⟨by decide, by decide⟩ (fun E ce q9 M1 H locs hpx Y hce hcv hcl => ?_) (fun r M1 H locs hp Y => ?_)
  · obtain ⟨hc, hu⟩ := hpx
    have hx1 := sp_press_x σ a
    have hx2 : (sp_press σ a).2.2 = σ := hx1.2 hc
    replace hx1 := hx1.1
    rcases (show (sp_press σ a).1 = 1 ∨ (sp_press σ a).1 = 2 by omega) with hk | hk
    · rw [hk] at hu
      have eE : E = exn 1 := (Prod.mk.inj hu).1
      have eM : M1 = M := (Prod.mk.inj hu).2
      rw [eM] at Y
      subst eE
      refine vx_catch (name := exn 1) X.1.2.2.2.1 [] ⟨0, 9, 12, 13⟩ [⟨0, 9, 15, 24⟩] htab (fun z hz => by cases hz) (by decide) (by decide) (X.1.2.2.2.2 _ kwL_press_1) ((hcx.1.2.1 (exn 1, exn 1) (by decide)).use rfl) hce hcv hcl ?_
      show W p l e _ s m _ below meth c H locs _ _ _ (F0 m 12 ls [.ref q9])
      refine lv_astore_n (lv' := [(3, .ref q9), (0, .ref (g.1 7 0)), (1, .int a), (2, .ref (g.1 13 0))]) hx hb dL_press_12 rfl hl (by decide) rfl (fun ls hl => ?_)
      refine n_iconst hx hb 1 dL_press_13 (by decide) ?_
      refine m_iret X Y hr hlocks (by decide) (by decide) ?_ dL_press_14
      exact LC_x (k := 0) hk hx2 hG
    · rw [hk] at hu
      have eE : E = exn 3 := (Prod.mk.inj hu).1
      have eM : M1 = M := (Prod.mk.inj hu).2
      rw [eM] at Y
      subst eE
      refine vx_catch (name := exn 3) X.1.2.2.2.1 [⟨0, 9, 12, 13⟩] ⟨0, 9, 15, 24⟩ [] htab (fun z hz => by simp only [List.mem_cons, List.not_mem_nil, or_false] at hz; subst hz; exact Or.inr ⟨by decide, exn 1, X.1.2.2.2.2 _ kwL_press_1, hcx.1.2.2.1 (exn 3, exn 1) (by decide)⟩) (by decide) (by decide) (X.1.2.2.2.2 _ kwL_press_2) ((hcx.1.2.1 (exn 3, exn 3) (by decide)).use rfl) hce hcv hcl ?_
      show W p l e _ s m _ below meth c H locs _ _ _ (F0 m 15 ls [.ref q9])
      refine lv_astore_n (lv' := [(3, .ref q9), (0, .ref (g.1 7 0)), (1, .int a), (2, .ref (g.1 13 0))]) hx hb dL_press_15 rfl hl (by decide) rfl (fun ls hl => ?_)
      refine n_iconst hx hb 2 dL_press_16 (by decide) ?_
      refine m_iret X Y hr hlocks (by decide) (by decide) ?_ dL_press_17
      exact LC_x (k := 1) hk hx2 hG
  · obtain ⟨hc0, hr0, g1, hk1, hG1⟩ := hp
    have e13 : g1.1 13 0 = g.1 13 0 := hk1 13 0 (by decide) (by decide) (by decide) (by decide)
    subst hr0
    refine lv_i2l hx hb dL_press_7 rfl ?_
    have h13 := hG1.f13 (hpr 13 (by decide))
    rw [e13] at h13
    refine m_last X Y (h13) (vp_in_nI (show 0 < 1 by decide) (by decide)) dL_press_8 (fun H locs Y => ?_)
    rw [nI_cl (show 0 < 2147483648 by decide)] at Y
    have hG2 := hG1.setO (hpr 13 (by decide)) ((sp_press σ a).2.1.toInt64)
    rw [e13] at hG2
    refine lv_goto (tgt := 18) hx hb dL_press_9 (by decide) ?_
    refine n_iconst hx hb 0 dL_press_18 (by decide) ?_
    refine m_iret X Y hr hlocks (by decide) (by decide) ?_ dL_press_19
    exact LC_0 hc0 hk1 hG2
theorem kwL_rule_1 : Cond.classLink RL 13 "java/lang/IndexOutOfBoundsException" ∈ wsL_rule := List.mem_of_getElem? (i := 1) rfl
theorem kwL_rule_2 : Cond.classLink RL 24 "java/lang/IllegalStateException" ∈ wsL_rule := List.mem_of_getElem? (i := 2) rfl
set_option maxHeartbeats 4000000 in
set_option maxRecDepth 100000 in
theorem c_L_rule (l : Launch) (hlt : l.stackTraces = false) (D : va_G) (kc : Nat → ClassId) (A : Nat → Prop) (e0 : Nat × Nat) (M : Mp) {pr : Nat → Prop} {σ τ : Sg} {th : Int32} {o : Int64} {g : Gh} {nn : Nat} (hG : G pr kc e0 σ τ th o g M) (hwf : WS nn σ) (hpr : ∀ t, t ≤ 13 → pr t) (a : Int32) (b : Bool) : Met l yL_rule wsL_rule ({ frames := 9, cells := 12, slots := 320, locals := 323 }) (mPre D kc A e0 M [.ref (g.1 7 0), .int a, .int (nI b.toNat), .ref (g.1 13 0)]) (va_Qi (LC pr kc e0 τ th g (sp_rule σ a b).1 (sp_rule σ a b).2.1.toInt64 (sp_rule σ a b).2.2) (mB D A) A) 12 320 A := by
  refine va_MetW (cc := cL_rule) (maxL := 5) (ret := (some .int)) (hh := [(0, 10, 13, 13), (0, 10, 17, 24)]) (by decide) rfl ?_
  intro p e s m args below meth c s₁ B hml hv
  have htab := vx_table (x := yL_rule) B (atoms_spec (ws := wsL_rule) B.pre _ List.mem_cons_self)
  obtain ⟨rfl, hw, hK, hA, hcx⟩ := hv
  have X : mX p s m _ c cL_rule 5 RL wsL_rule D kc := ⟨⟨B.exec, B.bytes, hml, findClass_of_methodNamed B.named, atoms_spec (ws := wsL_rule) B.pre⟩, hK⟩
  have hx := B.exec
  have hb := B.bytes
  have hr := B.returns
  have hlocks := B.notSynchronized
  have Y : mY D A M s s.heap [] := ⟨hw, va_S.rf⟩
  have hl := lv_entry ([.ref (g.1 7 0), .int a, .int (nI b.toNat), .ref (g.1 13 0)]) (n := 5) (Nat.le_of_ble_eq_true rfl)
  rw [lg_entry_eq]
  generalize (lg_sl ([.ref (g.1 7 0), .int a, .int (nI b.toNat), .ref (g.1 13 0)]) ++ List.replicate (5 - (lg_sl ([.ref (g.1 7 0), .int a, .int (nI b.toNat), .ref (g.1 13 0)])).length) Slot.unset).toArray = ls at hl ⊢
  have hl : lv_has ls 5 [(0, .ref (g.1 7 0)), (1, .int a), (2, .int (nI b.toNat)), (3, .ref (g.1 13 0))] := hl
  refine lv_aload_n hx hb dL_rule_0 rfl (lv_at hl 3 rfl) ?_
  refine n_iconst hx hb 0 dL_rule_1 (by decide) ?_
  refine lv_aload_n hx hb dL_rule_2 rfl (lv_at hl 0 rfl) ?_
  refine lv_iload_n hx hb dL_rule_3 rfl (lv_at hl 1 rfl) ?_
  refine lv_iload_n hx hb dL_rule_4 rfl (lv_at hl 2 rfl) ?_
  refine m_hVi (As := [.int a, .int (nI b.toNat)]) (rest := [.int (nI 0), .ref (g.1 13 0)]) X Y hA hcx (c_X7_rule l hlt D kc A e0 M hG hwf (fun t ht => hpr t (Nat.le_trans ht (by decide))) a b) (cwV 2 X.1.2.2.2.2 gL_rule_X7_rule rfl rfl rfl (by decide +kernel) ⟨Nat.le_of_ble_eq_true rfl, Nat.le_of_ble_eq_true rfl⟩) (hG.f7 (hpr 7 (by decide))) rfl rfl rfl hl.1 (Nat.le_of_ble_eq_true rfl) dL_rule_5 ⟨by decide, by decide⟩ (fun E ce q9 M1 H locs hpx Y hce hcv hcl => ?_) (fun r M1 H locs hp Y => ?_)
  · obtain ⟨hc, hu⟩ := hpx
    have hx1 := sp_rule_x σ a b
    have hx2 : (sp_rule σ a b).2.2 = σ := hx1.2 hc
    replace hx1 := hx1.1
    rcases (show (sp_rule σ a b).1 = 1 ∨ (sp_rule σ a b).1 = 2 by omega) with hk | hk
    · rw [hk] at hu
      have eE : E = exn 1 := (Prod.mk.inj hu).1
      have eM : M1 = M := (Prod.mk.inj hu).2
      rw [eM] at Y
      subst eE
      refine vx_catch (name := exn 1) X.1.2.2.2.1 [] ⟨0, 10, 13, 13⟩ [⟨0, 10, 17, 24⟩] htab (fun z hz => by cases hz) (by decide) (by decide) (X.1.2.2.2.2 _ kwL_rule_1) ((hcx.1.2.1 (exn 1, exn 1) (by decide)).use rfl) hce hcv hcl ?_
      show W p l e _ s m _ below meth c H locs _ _ _ (F0 m 13 ls [.ref q9])
      refine lv_astore (lv' := [(4, .ref q9), (0, .ref (g.1 7 0)), (1, .int a), (2, .int (nI b.toNat)), (3, .ref (g.1 13 0))]) hx hb dL_rule_13 hl (by decide) rfl (fun ls hl => ?_)
      refine n_iconst hx hb 1 dL_rule_15 (by decide) ?_
      refine m_iret X Y hr hlocks (by decide) (by decide) ?_ dL_rule_16
      exact LC_x (k := 0) hk hx2 hG
    · rw [hk] at hu
      have eE : E = exn 3 := (Prod.mk.inj hu).1
      have eM : M1 = M := (Prod.mk.inj hu).2
      rw [eM] at Y
      subst eE
      refine vx_catch (name := exn 3) X.1.2.2.2.1 [⟨0, 10, 13, 13⟩] ⟨0, 10, 17, 24⟩ [] htab (fun z hz => by simp only [List.mem_cons, List.not_mem_nil, or_false] at hz; subst hz; exact Or.inr ⟨by decide, exn 1, X.1.2.2.2.2 _ kwL_rule_1, hcx.1.2.2.1 (exn 3, exn 1) (by decide)⟩) (by decide) (by decide) (X.1.2.2.2.2 _ kwL_rule_2) ((hcx.1.2.1 (exn 3, exn 3) (by decide)).use rfl) hce hcv hcl ?_
      show W p l e _ s m _ below meth c H locs _ _ _ (F0 m 17 ls [.ref q9])
      refine lv_astore (lv' := [(4, .ref q9), (0, .ref (g.1 7 0)), (1, .int a), (2, .int (nI b.toNat)), (3, .ref (g.1 13 0))]) hx hb dL_rule_17 hl (by decide) rfl (fun ls hl => ?_)
      refine n_iconst hx hb 2 dL_rule_19 (by decide) ?_
      refine m_iret X Y hr hlocks (by decide) (by decide) ?_ dL_rule_20
      exact LC_x (k := 1) hk hx2 hG
  · obtain ⟨hc0, hr0, g1, hk1, hG1⟩ := hp
    have e13 : g1.1 13 0 = g.1 13 0 := hk1 13 0 (by decide) (by decide) (by decide) (by decide)
    subst hr0
    refine lv_i2l hx hb dL_rule_8 rfl ?_
    have h13 := hG1.f13 (hpr 13 (by decide))
    rw [e13] at h13
    refine m_last X Y (h13) (vp_in_nI (show 0 < 1 by decide) (by decide)) dL_rule_9 (fun H locs Y => ?_)
    rw [nI_cl (show 0 < 2147483648 by decide)] at Y
    have hG2 := hG1.setO (hpr 13 (by decide)) ((sp_rule σ a b).2.1.toInt64)
    rw [e13] at hG2
    refine lv_goto (tgt := 21) hx hb dL_rule_10 (by decide) ?_
    refine n_iconst hx hb 0 dL_rule_21 (by decide) ?_
    refine m_iret X Y hr hlocks (by decide) (by decide) ?_ dL_rule_22
    exact LC_0 hc0 hk1 hG2
theorem kwL_pass_1 : Cond.classLink RL 19 "java/lang/IllegalArgumentException" ∈ wsL_pass := List.mem_of_getElem? (i := 1) rfl
set_option maxHeartbeats 4000000 in
set_option maxRecDepth 100000 in
theorem c_L_pass (l : Launch) (hlt : l.stackTraces = false) (D : va_G) (kc : Nat → ClassId) (A : Nat → Prop) (e0 : Nat × Nat) (M : Mp) {pr : Nat → Prop} {σ τ : Sg} {th : Int32} {o : Int64} {g : Gh} {nn : Nat} (hG : G pr kc e0 σ τ th o g M) (hwf : WS nn σ) (hpr : ∀ t, t ≤ 13 → pr t) (a : Int32) (hnn : nn + 1 ≤ 600) : Met l yL_pass wsL_pass ({ frames := 9, cells := 12, slots := 320, locals := 322 }) (mPre D kc A e0 M [.ref (g.1 7 0), .int a, .ref (g.1 13 0)]) (va_Qi (LC pr kc e0 τ th g (sp_pass σ a).1 (sp_pass σ a).2.1.toInt64 (sp_pass σ a).2.2) (mB D A) A) 12 320 A := by
  refine va_MetW (cc := cL_pass) (maxL := 4) (ret := (some .int)) (hh := [(0, 9, 12, 19)]) (by decide) rfl ?_
  intro p e s m args below meth c s₁ B hml hv
  have htab := vx_table (x := yL_pass) B (atoms_spec (ws := wsL_pass) B.pre _ List.mem_cons_self)
  obtain ⟨rfl, hw, hK, hA, hcx⟩ := hv
  have X : mX p s m _ c cL_pass 4 RL wsL_pass D kc := ⟨⟨B.exec, B.bytes, hml, findClass_of_methodNamed B.named, atoms_spec (ws := wsL_pass) B.pre⟩, hK⟩
  have hx := B.exec
  have hb := B.bytes
  have hr := B.returns
  have hlocks := B.notSynchronized
  have Y : mY D A M s s.heap [] := ⟨hw, va_S.rf⟩
  have hl := lv_entry ([.ref (g.1 7 0), .int a, .ref (g.1 13 0)]) (n := 4) (Nat.le_of_ble_eq_true rfl)
  rw [lg_entry_eq]
  generalize (lg_sl ([.ref (g.1 7 0), .int a, .ref (g.1 13 0)]) ++ List.replicate (4 - (lg_sl ([.ref (g.1 7 0), .int a, .ref (g.1 13 0)])).length) Slot.unset).toArray = ls at hl ⊢
  have hl : lv_has ls 4 [(0, .ref (g.1 7 0)), (1, .int a), (2, .ref (g.1 13 0))] := hl
  refine lv_aload_n hx hb dL_pass_0 rfl (lv_at hl 2 rfl) ?_
  refine n_iconst hx hb 0 dL_pass_1 (by decide) ?_
  refine lv_aload_n hx hb dL_pass_2 rfl (lv_at hl 0 rfl) ?_
  refine lv_iload_n hx hb dL_pass_3 rfl (lv_at hl 1 rfl) ?_
  refine m_hVi (As := [.int a]) (rest := [.int (nI 0), .ref (g.1 13 0)]) X Y hA hcx (c_X7_pass l hlt D kc A e0 M hG hwf (fun t ht => hpr t (Nat.le_trans ht (by decide))) a hnn) (cwV 1 X.1.2.2.2.2 gL_pass_X7_pass rfl rfl rfl (by decide +kernel) ⟨Nat.le_of_ble_eq_true rfl, Nat.le_of_ble_eq_true rfl⟩) (hG.f7 (hpr 7 (by decide))) rfl rfl rfl hl.1 (Nat.le_of_ble_eq_true rfl) dL_pass_4 ⟨by decide, by decide⟩ (fun E ce q9 M1 H locs hpx Y hce hcv hcl => ?_) (fun r M1 H locs hp Y => ?_)
  · obtain ⟨hc, hu⟩ := hpx
    have hx1 := sp_pass_x σ a
    have hx2 : (sp_pass σ a).2.2 = σ := hx1.2 hc
    replace hx1 := hx1.1
    have hk : (sp_pass σ a).1 = 1 := by omega
    rw [hk] at hu
    have eE : E = exn 2 := (Prod.mk.inj hu).1
    have eM : M1 = M := (Prod.mk.inj hu).2
    rw [eM] at Y
    subst eE
    refine vx_catch (name := exn 2) X.1.2.2.2.1 [] ⟨0, 9, 12, 19⟩ [] htab (fun z hz => by cases hz) (by decide) (by decide) (X.1.2.2.2.2 _ kwL_pass_1) ((hcx.1.2.1 (exn 2, exn 2) (by decide)).use rfl) hce hcv hcl ?_
    show W p l e _ s m _ below meth c H locs _ _ _ (F0 m 12 ls [.ref q9])
    refine lv_astore_n (lv' := [(3, .ref q9), (0, .ref (g.1 7 0)), (1, .int a), (2, .ref (g.1 13 0))]) hx hb dL_pass_12 rfl hl (by decide) rfl (fun ls hl => ?_)
    refine n_iconst hx hb 1 dL_pass_13 (by decide) ?_
    refine m_iret X Y hr hlocks (by decide) (by decide) ?_ dL_pass_14
    exact LC_x (k := 0) hk hx2 hG
  · obtain ⟨hc0, hr0, g1, hk1, hG1⟩ := hp
    have e13 : g1.1 13 0 = g.1 13 0 := hk1 13 0 (by decide) (by decide) (by decide) (by decide)
    subst hr0
    refine lv_i2l hx hb dL_pass_7 rfl ?_
    have h13 := hG1.f13 (hpr 13 (by decide))
    rw [e13] at h13
    refine m_last X Y (h13) (vp_in_nI (show 0 < 1 by decide) (by decide)) dL_pass_8 (fun H locs Y => ?_)
    rw [nI_cl (show 0 < 2147483648 by decide)] at Y
    have hG2 := hG1.setO (hpr 13 (by decide)) ((sp_pass σ a).2.1.toInt64)
    rw [e13] at hG2
    refine lv_goto (tgt := 15) hx hb dL_pass_9 (by decide) ?_
    refine n_iconst hx hb 0 dL_pass_15 (by decide) ?_
    refine m_iret X Y hr hlocks (by decide) (by decide) ?_ dL_pass_16
    exact LC_0 hc0 hk1 hG2
theorem kwL_paymentOf_1 : Cond.classLink RL 13 "java/lang/IndexOutOfBoundsException" ∈ wsL_paymentOf := List.mem_of_getElem? (i := 1) rfl
theorem kwL_paymentOf_2 : Cond.classLink RL 19 "java/lang/IllegalArgumentException" ∈ wsL_paymentOf := List.mem_of_getElem? (i := 2) rfl
set_option maxHeartbeats 4000000 in
set_option maxRecDepth 100000 in
theorem c_L_paymentOf (l : Launch) (hlt : l.stackTraces = false) (D : va_G) (kc : Nat → ClassId) (A : Nat → Prop) (e0 : Nat × Nat) (M : Mp) {pr : Nat → Prop} {σ τ : Sg} {th : Int32} {o : Int64} {g : Gh} {nn : Nat} (hG : G pr kc e0 σ τ th o g M) (hwf : WS nn σ) (hpr : ∀ t, t ≤ 13 → pr t) (a : Int32) (b : Int32) : Met l yL_paymentOf wsL_paymentOf ({ frames := 9, cells := 12, slots := 320, locals := 323 }) (mPre D kc A e0 M [.ref (g.1 7 0), .int a, .int b, .ref (g.1 13 0)]) (va_Qi (LC pr kc e0 τ th g (sp_paymentOf σ a b).1 (sp_paymentOf σ a b).2.1.toInt64 (sp_paymentOf σ a b).2.2) (mB D A) A) 12 320 A := by
  refine va_MetW (cc := cL_paymentOf) (maxL := 5) (ret := (some .int)) (hh := [(0, 10, 13, 13), (0, 10, 17, 19)]) (by decide) rfl ?_
  intro p e s m args below meth c s₁ B hml hv
  have htab := vx_table (x := yL_paymentOf) B (atoms_spec (ws := wsL_paymentOf) B.pre _ List.mem_cons_self)
  obtain ⟨rfl, hw, hK, hA, hcx⟩ := hv
  have X : mX p s m _ c cL_paymentOf 5 RL wsL_paymentOf D kc := ⟨⟨B.exec, B.bytes, hml, findClass_of_methodNamed B.named, atoms_spec (ws := wsL_paymentOf) B.pre⟩, hK⟩
  have hx := B.exec
  have hb := B.bytes
  have hr := B.returns
  have hlocks := B.notSynchronized
  have Y : mY D A M s s.heap [] := ⟨hw, va_S.rf⟩
  have hl := lv_entry ([.ref (g.1 7 0), .int a, .int b, .ref (g.1 13 0)]) (n := 5) (Nat.le_of_ble_eq_true rfl)
  rw [lg_entry_eq]
  generalize (lg_sl ([.ref (g.1 7 0), .int a, .int b, .ref (g.1 13 0)]) ++ List.replicate (5 - (lg_sl ([.ref (g.1 7 0), .int a, .int b, .ref (g.1 13 0)])).length) Slot.unset).toArray = ls at hl ⊢
  have hl : lv_has ls 5 [(0, .ref (g.1 7 0)), (1, .int a), (2, .int b), (3, .ref (g.1 13 0))] := hl
  refine lv_aload_n hx hb dL_paymentOf_0 rfl (lv_at hl 3 rfl) ?_
  refine n_iconst hx hb 0 dL_paymentOf_1 (by decide) ?_
  refine lv_aload_n hx hb dL_paymentOf_2 rfl (lv_at hl 0 rfl) ?_
  refine lv_iload_n hx hb dL_paymentOf_3 rfl (lv_at hl 1 rfl) ?_
  refine lv_iload_n hx hb dL_paymentOf_4 rfl (lv_at hl 2 rfl) ?_
  refine m_hVi (As := [.int a, .int b]) (rest := [.int (nI 0), .ref (g.1 13 0)]) X Y hA hcx (c_X7_paymentOf l hlt D kc A e0 M hG hwf (fun t ht => hpr t (Nat.le_trans ht (by decide))) a b) (cwV 2 X.1.2.2.2.2 gL_paymentOf_X7_paymentOf rfl rfl rfl (by decide +kernel) ⟨Nat.le_of_ble_eq_true rfl, Nat.le_of_ble_eq_true rfl⟩) (hG.f7 (hpr 7 (by decide))) rfl rfl rfl hl.1 (Nat.le_of_ble_eq_true rfl) dL_paymentOf_5 ⟨by decide, by decide⟩ (fun E ce q9 M1 H locs hpx Y hce hcv hcl => ?_) (fun r M1 H locs hp Y => ?_)
  · obtain ⟨hc, hu⟩ := hpx
    have hx1 := sp_paymentOf_x σ a b
    have hx2 : (sp_paymentOf σ a b).2.2 = σ := hx1.2 hc
    replace hx1 := hx1.1
    rcases (show (sp_paymentOf σ a b).1 = 1 ∨ (sp_paymentOf σ a b).1 = 2 by omega) with hk | hk
    · rw [hk] at hu
      have eE : E = exn 1 := (Prod.mk.inj hu).1
      have eM : M1 = M := (Prod.mk.inj hu).2
      rw [eM] at Y
      subst eE
      refine vx_catch (name := exn 1) X.1.2.2.2.1 [] ⟨0, 10, 13, 13⟩ [⟨0, 10, 17, 19⟩] htab (fun z hz => by cases hz) (by decide) (by decide) (X.1.2.2.2.2 _ kwL_paymentOf_1) ((hcx.1.2.1 (exn 1, exn 1) (by decide)).use rfl) hce hcv hcl ?_
      show W p l e _ s m _ below meth c H locs _ _ _ (F0 m 13 ls [.ref q9])
      refine lv_astore (lv' := [(4, .ref q9), (0, .ref (g.1 7 0)), (1, .int a), (2, .int b), (3, .ref (g.1 13 0))]) hx hb dL_paymentOf_13 hl (by decide) rfl (fun ls hl => ?_)
      refine n_iconst hx hb 1 dL_paymentOf_15 (by decide) ?_
      refine m_iret X Y hr hlocks (by decide) (by decide) ?_ dL_paymentOf_16
      exact LC_x (k := 0) hk hx2 hG
    · rw [hk] at hu
      have eE : E = exn 2 := (Prod.mk.inj hu).1
      have eM : M1 = M := (Prod.mk.inj hu).2
      rw [eM] at Y
      subst eE
      refine vx_catch (name := exn 2) X.1.2.2.2.1 [⟨0, 10, 13, 13⟩] ⟨0, 10, 17, 19⟩ [] htab (fun z hz => by simp only [List.mem_cons, List.not_mem_nil, or_false] at hz; subst hz; exact Or.inr ⟨by decide, exn 1, X.1.2.2.2.2 _ kwL_paymentOf_1, hcx.1.2.2.1 (exn 2, exn 1) (by decide)⟩) (by decide) (by decide) (X.1.2.2.2.2 _ kwL_paymentOf_2) ((hcx.1.2.1 (exn 2, exn 2) (by decide)).use rfl) hce hcv hcl ?_
      show W p l e _ s m _ below meth c H locs _ _ _ (F0 m 17 ls [.ref q9])
      refine lv_astore (lv' := [(4, .ref q9), (0, .ref (g.1 7 0)), (1, .int a), (2, .int b), (3, .ref (g.1 13 0))]) hx hb dL_paymentOf_17 hl (by decide) rfl (fun ls hl => ?_)
      refine n_iconst hx hb 2 dL_paymentOf_19 (by decide) ?_
      refine m_iret X Y hr hlocks (by decide) (by decide) ?_ dL_paymentOf_20
      exact LC_x (k := 1) hk hx2 hG
  · obtain ⟨hc0, hr0, g1, hk1, hG1⟩ := hp
    have e13 : g1.1 13 0 = g.1 13 0 := hk1 13 0 (by decide) (by decide) (by decide) (by decide)
    subst hr0
    refine lv_i2l hx hb dL_paymentOf_8 rfl ?_
    have h13 := hG1.f13 (hpr 13 (by decide))
    rw [e13] at h13
    refine m_last X Y (h13) (vp_in_nI (show 0 < 1 by decide) (by decide)) dL_paymentOf_9 (fun H locs Y => ?_)
    rw [nI_cl (show 0 < 2147483648 by decide)] at Y
    have hG2 := hG1.setO (hpr 13 (by decide)) ((sp_paymentOf σ a b).2.1.toInt64)
    rw [e13] at hG2
    refine lv_goto (tgt := 21) hx hb dL_paymentOf_10 (by decide) ?_
    refine n_iconst hx hb 0 dL_paymentOf_21 (by decide) ?_
    refine m_iret X Y hr hlocks (by decide) (by decide) ?_ dL_paymentOf_22
    exact LC_0 hc0 hk1 hG2
theorem kwL_captureOf_1 : Cond.classLink RL 13 "java/lang/IndexOutOfBoundsException" ∈ wsL_captureOf := List.mem_of_getElem? (i := 1) rfl
theorem kwL_captureOf_2 : Cond.classLink RL 19 "java/lang/IllegalArgumentException" ∈ wsL_captureOf := List.mem_of_getElem? (i := 2) rfl
set_option maxHeartbeats 4000000 in
set_option maxRecDepth 100000 in
theorem c_L_captureOf (l : Launch) (hlt : l.stackTraces = false) (D : va_G) (kc : Nat → ClassId) (A : Nat → Prop) (e0 : Nat × Nat) (M : Mp) {pr : Nat → Prop} {σ τ : Sg} {th : Int32} {o : Int64} {g : Gh} {nn : Nat} (hG : G pr kc e0 σ τ th o g M) (hwf : WS nn σ) (hpr : ∀ t, t ≤ 13 → pr t) (a : Int32) (b : Int32) : Met l yL_captureOf wsL_captureOf ({ frames := 9, cells := 12, slots := 320, locals := 323 }) (mPre D kc A e0 M [.ref (g.1 7 0), .int a, .int b, .ref (g.1 13 0)]) (va_Qi (LC pr kc e0 τ th g (sp_captureOf σ a b).1 (sp_captureOf σ a b).2.1.toInt64 (sp_captureOf σ a b).2.2) (mB D A) A) 12 320 A := by
  refine va_MetW (cc := cL_captureOf) (maxL := 5) (ret := (some .int)) (hh := [(0, 10, 13, 13), (0, 10, 17, 19)]) (by decide) rfl ?_
  intro p e s m args below meth c s₁ B hml hv
  have htab := vx_table (x := yL_captureOf) B (atoms_spec (ws := wsL_captureOf) B.pre _ List.mem_cons_self)
  obtain ⟨rfl, hw, hK, hA, hcx⟩ := hv
  have X : mX p s m _ c cL_captureOf 5 RL wsL_captureOf D kc := ⟨⟨B.exec, B.bytes, hml, findClass_of_methodNamed B.named, atoms_spec (ws := wsL_captureOf) B.pre⟩, hK⟩
  have hx := B.exec
  have hb := B.bytes
  have hr := B.returns
  have hlocks := B.notSynchronized
  have Y : mY D A M s s.heap [] := ⟨hw, va_S.rf⟩
  have hl := lv_entry ([.ref (g.1 7 0), .int a, .int b, .ref (g.1 13 0)]) (n := 5) (Nat.le_of_ble_eq_true rfl)
  rw [lg_entry_eq]
  generalize (lg_sl ([.ref (g.1 7 0), .int a, .int b, .ref (g.1 13 0)]) ++ List.replicate (5 - (lg_sl ([.ref (g.1 7 0), .int a, .int b, .ref (g.1 13 0)])).length) Slot.unset).toArray = ls at hl ⊢
  have hl : lv_has ls 5 [(0, .ref (g.1 7 0)), (1, .int a), (2, .int b), (3, .ref (g.1 13 0))] := hl
  refine lv_aload_n hx hb dL_captureOf_0 rfl (lv_at hl 3 rfl) ?_
  refine n_iconst hx hb 0 dL_captureOf_1 (by decide) ?_
  refine lv_aload_n hx hb dL_captureOf_2 rfl (lv_at hl 0 rfl) ?_
  refine lv_iload_n hx hb dL_captureOf_3 rfl (lv_at hl 1 rfl) ?_
  refine lv_iload_n hx hb dL_captureOf_4 rfl (lv_at hl 2 rfl) ?_
  refine m_hVi (As := [.int a, .int b]) (rest := [.int (nI 0), .ref (g.1 13 0)]) X Y hA hcx (c_X7_captureOf l hlt D kc A e0 M hG hwf (fun t ht => hpr t (Nat.le_trans ht (by decide))) a b) (cwV 2 X.1.2.2.2.2 gL_captureOf_X7_captureOf rfl rfl rfl (by decide +kernel) ⟨Nat.le_of_ble_eq_true rfl, Nat.le_of_ble_eq_true rfl⟩) (hG.f7 (hpr 7 (by decide))) rfl rfl rfl hl.1 (Nat.le_of_ble_eq_true rfl) dL_captureOf_5 ⟨by decide, by decide⟩ (fun E ce q9 M1 H locs hpx Y hce hcv hcl => ?_) (fun r M1 H locs hp Y => ?_)
  · obtain ⟨hc, hu⟩ := hpx
    have hx1 := sp_captureOf_x σ a b
    have hx2 : (sp_captureOf σ a b).2.2 = σ := hx1.2 hc
    replace hx1 := hx1.1
    rcases (show (sp_captureOf σ a b).1 = 1 ∨ (sp_captureOf σ a b).1 = 2 by omega) with hk | hk
    · rw [hk] at hu
      have eE : E = exn 1 := (Prod.mk.inj hu).1
      have eM : M1 = M := (Prod.mk.inj hu).2
      rw [eM] at Y
      subst eE
      refine vx_catch (name := exn 1) X.1.2.2.2.1 [] ⟨0, 10, 13, 13⟩ [⟨0, 10, 17, 19⟩] htab (fun z hz => by cases hz) (by decide) (by decide) (X.1.2.2.2.2 _ kwL_captureOf_1) ((hcx.1.2.1 (exn 1, exn 1) (by decide)).use rfl) hce hcv hcl ?_
      show W p l e _ s m _ below meth c H locs _ _ _ (F0 m 13 ls [.ref q9])
      refine lv_astore (lv' := [(4, .ref q9), (0, .ref (g.1 7 0)), (1, .int a), (2, .int b), (3, .ref (g.1 13 0))]) hx hb dL_captureOf_13 hl (by decide) rfl (fun ls hl => ?_)
      refine n_iconst hx hb 1 dL_captureOf_15 (by decide) ?_
      refine m_iret X Y hr hlocks (by decide) (by decide) ?_ dL_captureOf_16
      exact LC_x (k := 0) hk hx2 hG
    · rw [hk] at hu
      have eE : E = exn 2 := (Prod.mk.inj hu).1
      have eM : M1 = M := (Prod.mk.inj hu).2
      rw [eM] at Y
      subst eE
      refine vx_catch (name := exn 2) X.1.2.2.2.1 [⟨0, 10, 13, 13⟩] ⟨0, 10, 17, 19⟩ [] htab (fun z hz => by simp only [List.mem_cons, List.not_mem_nil, or_false] at hz; subst hz; exact Or.inr ⟨by decide, exn 1, X.1.2.2.2.2 _ kwL_captureOf_1, hcx.1.2.2.1 (exn 2, exn 1) (by decide)⟩) (by decide) (by decide) (X.1.2.2.2.2 _ kwL_captureOf_2) ((hcx.1.2.1 (exn 2, exn 2) (by decide)).use rfl) hce hcv hcl ?_
      show W p l e _ s m _ below meth c H locs _ _ _ (F0 m 17 ls [.ref q9])
      refine lv_astore (lv' := [(4, .ref q9), (0, .ref (g.1 7 0)), (1, .int a), (2, .int b), (3, .ref (g.1 13 0))]) hx hb dL_captureOf_17 hl (by decide) rfl (fun ls hl => ?_)
      refine n_iconst hx hb 2 dL_captureOf_19 (by decide) ?_
      refine m_iret X Y hr hlocks (by decide) (by decide) ?_ dL_captureOf_20
      exact LC_x (k := 1) hk hx2 hG
  · obtain ⟨hc0, hr0, g1, hk1, hG1⟩ := hp
    have e13 : g1.1 13 0 = g.1 13 0 := hk1 13 0 (by decide) (by decide) (by decide) (by decide)
    subst hr0
    refine lv_i2l hx hb dL_captureOf_8 rfl ?_
    have h13 := hG1.f13 (hpr 13 (by decide))
    rw [e13] at h13
    refine m_last X Y (h13) (vp_in_nI (show 0 < 1 by decide) (by decide)) dL_captureOf_9 (fun H locs Y => ?_)
    rw [nI_cl (show 0 < 2147483648 by decide)] at Y
    have hG2 := hG1.setO (hpr 13 (by decide)) ((sp_captureOf σ a b).2.1.toInt64)
    rw [e13] at hG2
    refine lv_goto (tgt := 21) hx hb dL_captureOf_10 (by decide) ?_
    refine n_iconst hx hb 0 dL_captureOf_21 (by decide) ?_
    refine m_iret X Y hr hlocks (by decide) (by decide) ?_ dL_captureOf_22
    exact LC_0 hc0 hk1 hG2
theorem kwL_chargebackOf_1 : Cond.classLink RL 13 "java/lang/IndexOutOfBoundsException" ∈ wsL_chargebackOf := List.mem_of_getElem? (i := 1) rfl
theorem kwL_chargebackOf_2 : Cond.classLink RL 19 "java/lang/IllegalArgumentException" ∈ wsL_chargebackOf := List.mem_of_getElem? (i := 2) rfl
set_option maxHeartbeats 4000000 in
set_option maxRecDepth 100000 in
theorem c_L_chargebackOf (l : Launch) (hlt : l.stackTraces = false) (D : va_G) (kc : Nat → ClassId) (A : Nat → Prop) (e0 : Nat × Nat) (M : Mp) {pr : Nat → Prop} {σ τ : Sg} {th : Int32} {o : Int64} {g : Gh} {nn : Nat} (hG : G pr kc e0 σ τ th o g M) (hwf : WS nn σ) (hpr : ∀ t, t ≤ 13 → pr t) (a : Int32) (b : Int32) : Met l yL_chargebackOf wsL_chargebackOf ({ frames := 9, cells := 12, slots := 320, locals := 323 }) (mPre D kc A e0 M [.ref (g.1 7 0), .int a, .int b, .ref (g.1 13 0)]) (va_Qi (LC pr kc e0 τ th g (sp_chargebackOf σ a b).1 (sp_chargebackOf σ a b).2.1.toInt64 (sp_chargebackOf σ a b).2.2) (mB D A) A) 12 320 A := by
  refine va_MetW (cc := cL_chargebackOf) (maxL := 5) (ret := (some .int)) (hh := [(0, 10, 13, 13), (0, 10, 17, 19)]) (by decide) rfl ?_
  intro p e s m args below meth c s₁ B hml hv
  have htab := vx_table (x := yL_chargebackOf) B (atoms_spec (ws := wsL_chargebackOf) B.pre _ List.mem_cons_self)
  obtain ⟨rfl, hw, hK, hA, hcx⟩ := hv
  have X : mX p s m _ c cL_chargebackOf 5 RL wsL_chargebackOf D kc := ⟨⟨B.exec, B.bytes, hml, findClass_of_methodNamed B.named, atoms_spec (ws := wsL_chargebackOf) B.pre⟩, hK⟩
  have hx := B.exec
  have hb := B.bytes
  have hr := B.returns
  have hlocks := B.notSynchronized
  have Y : mY D A M s s.heap [] := ⟨hw, va_S.rf⟩
  have hl := lv_entry ([.ref (g.1 7 0), .int a, .int b, .ref (g.1 13 0)]) (n := 5) (Nat.le_of_ble_eq_true rfl)
  rw [lg_entry_eq]
  generalize (lg_sl ([.ref (g.1 7 0), .int a, .int b, .ref (g.1 13 0)]) ++ List.replicate (5 - (lg_sl ([.ref (g.1 7 0), .int a, .int b, .ref (g.1 13 0)])).length) Slot.unset).toArray = ls at hl ⊢
  have hl : lv_has ls 5 [(0, .ref (g.1 7 0)), (1, .int a), (2, .int b), (3, .ref (g.1 13 0))] := hl
  refine lv_aload_n hx hb dL_chargebackOf_0 rfl (lv_at hl 3 rfl) ?_
  refine n_iconst hx hb 0 dL_chargebackOf_1 (by decide) ?_
  refine lv_aload_n hx hb dL_chargebackOf_2 rfl (lv_at hl 0 rfl) ?_
  refine lv_iload_n hx hb dL_chargebackOf_3 rfl (lv_at hl 1 rfl) ?_
  refine lv_iload_n hx hb dL_chargebackOf_4 rfl (lv_at hl 2 rfl) ?_
  refine m_hVi (As := [.int a, .int b]) (rest := [.int (nI 0), .ref (g.1 13 0)]) X Y hA hcx (c_X7_chargebackOf l hlt D kc A e0 M hG hwf (fun t ht => hpr t (Nat.le_trans ht (by decide))) a b) (cwV 2 X.1.2.2.2.2 gL_chargebackOf_X7_chargebackOf rfl rfl rfl (by decide +kernel) ⟨Nat.le_of_ble_eq_true rfl, Nat.le_of_ble_eq_true rfl⟩) (hG.f7 (hpr 7 (by decide))) rfl rfl rfl hl.1 (Nat.le_of_ble_eq_true rfl) dL_chargebackOf_5 ⟨by decide, by decide⟩ (fun E ce q9 M1 H locs hpx Y hce hcv hcl => ?_) (fun r M1 H locs hp Y => ?_)
  · obtain ⟨hc, hu⟩ := hpx
    have hx1 := sp_chargebackOf_x σ a b
    have hx2 : (sp_chargebackOf σ a b).2.2 = σ := hx1.2 hc
    replace hx1 := hx1.1
    rcases (show (sp_chargebackOf σ a b).1 = 1 ∨ (sp_chargebackOf σ a b).1 = 2 by omega) with hk | hk
    · rw [hk] at hu
      have eE : E = exn 1 := (Prod.mk.inj hu).1
      have eM : M1 = M := (Prod.mk.inj hu).2
      rw [eM] at Y
      subst eE
      refine vx_catch (name := exn 1) X.1.2.2.2.1 [] ⟨0, 10, 13, 13⟩ [⟨0, 10, 17, 19⟩] htab (fun z hz => by cases hz) (by decide) (by decide) (X.1.2.2.2.2 _ kwL_chargebackOf_1) ((hcx.1.2.1 (exn 1, exn 1) (by decide)).use rfl) hce hcv hcl ?_
      show W p l e _ s m _ below meth c H locs _ _ _ (F0 m 13 ls [.ref q9])
      refine lv_astore (lv' := [(4, .ref q9), (0, .ref (g.1 7 0)), (1, .int a), (2, .int b), (3, .ref (g.1 13 0))]) hx hb dL_chargebackOf_13 hl (by decide) rfl (fun ls hl => ?_)
      refine n_iconst hx hb 1 dL_chargebackOf_15 (by decide) ?_
      refine m_iret X Y hr hlocks (by decide) (by decide) ?_ dL_chargebackOf_16
      exact LC_x (k := 0) hk hx2 hG
    · rw [hk] at hu
      have eE : E = exn 2 := (Prod.mk.inj hu).1
      have eM : M1 = M := (Prod.mk.inj hu).2
      rw [eM] at Y
      subst eE
      refine vx_catch (name := exn 2) X.1.2.2.2.1 [⟨0, 10, 13, 13⟩] ⟨0, 10, 17, 19⟩ [] htab (fun z hz => by simp only [List.mem_cons, List.not_mem_nil, or_false] at hz; subst hz; exact Or.inr ⟨by decide, exn 1, X.1.2.2.2.2 _ kwL_chargebackOf_1, hcx.1.2.2.1 (exn 2, exn 1) (by decide)⟩) (by decide) (by decide) (X.1.2.2.2.2 _ kwL_chargebackOf_2) ((hcx.1.2.1 (exn 2, exn 2) (by decide)).use rfl) hce hcv hcl ?_
      show W p l e _ s m _ below meth c H locs _ _ _ (F0 m 17 ls [.ref q9])
      refine lv_astore (lv' := [(4, .ref q9), (0, .ref (g.1 7 0)), (1, .int a), (2, .int b), (3, .ref (g.1 13 0))]) hx hb dL_chargebackOf_17 hl (by decide) rfl (fun ls hl => ?_)
      refine n_iconst hx hb 2 dL_chargebackOf_19 (by decide) ?_
      refine m_iret X Y hr hlocks (by decide) (by decide) ?_ dL_chargebackOf_20
      exact LC_x (k := 1) hk hx2 hG
  · obtain ⟨hc0, hr0, g1, hk1, hG1⟩ := hp
    have e13 : g1.1 13 0 = g.1 13 0 := hk1 13 0 (by decide) (by decide) (by decide) (by decide)
    subst hr0
    refine lv_i2l hx hb dL_chargebackOf_8 rfl ?_
    have h13 := hG1.f13 (hpr 13 (by decide))
    rw [e13] at h13
    refine m_last X Y (h13) (vp_in_nI (show 0 < 1 by decide) (by decide)) dL_chargebackOf_9 (fun H locs Y => ?_)
    rw [nI_cl (show 0 < 2147483648 by decide)] at Y
    have hG2 := hG1.setO (hpr 13 (by decide)) ((sp_chargebackOf σ a b).2.1.toInt64)
    rw [e13] at hG2
    refine lv_goto (tgt := 21) hx hb dL_chargebackOf_10 (by decide) ?_
    refine n_iconst hx hb 0 dL_chargebackOf_21 (by decide) ?_
    refine m_iret X Y hr hlocks (by decide) (by decide) ?_ dL_chargebackOf_22
    exact LC_0 hc0 hk1 hG2
theorem kwL_limit_1 : Cond.classLink RL 13 "java/lang/IndexOutOfBoundsException" ∈ wsL_limit := List.mem_of_getElem? (i := 1) rfl
set_option maxHeartbeats 4000000 in
set_option maxRecDepth 100000 in
theorem c_L_limit (l : Launch) (hlt : l.stackTraces = false) (D : va_G) (kc : Nat → ClassId) (A : Nat → Prop) (e0 : Nat × Nat) (M : Mp) {pr : Nat → Prop} {σ τ : Sg} {th : Int32} {o : Int64} {g : Gh} {nn : Nat} (hG : G pr kc e0 σ τ th o g M) (hwf : WS nn σ) (hpr : ∀ t, t ≤ 13 → pr t) (a : Int32) : Met l yL_limit wsL_limit ({ frames := 9, cells := 12, slots := 320, locals := 321 }) (mPre D kc A e0 M [.ref (g.1 7 0), .int a, .ref (g.1 13 0)]) (va_Qi (LC pr kc e0 τ th g (sp_limit σ a).1 (sp_limit σ a).2.1.toInt64 (sp_limit σ a).2.2) (mB D A) A) 12 320 A := by
  refine va_MetW (cc := cL_limit) (maxL := 4) (ret := (some .int)) (hh := [(0, 9, 12, 13)]) (by decide) rfl ?_
  intro p e s m args below meth c s₁ B hml hv
  have htab := vx_table (x := yL_limit) B (atoms_spec (ws := wsL_limit) B.pre _ List.mem_cons_self)
  obtain ⟨rfl, hw, hK, hA, hcx⟩ := hv
  have X : mX p s m _ c cL_limit 4 RL wsL_limit D kc := ⟨⟨B.exec, B.bytes, hml, findClass_of_methodNamed B.named, atoms_spec (ws := wsL_limit) B.pre⟩, hK⟩
  have hx := B.exec
  have hb := B.bytes
  have hr := B.returns
  have hlocks := B.notSynchronized
  have Y : mY D A M s s.heap [] := ⟨hw, va_S.rf⟩
  have hl := lv_entry ([.ref (g.1 7 0), .int a, .ref (g.1 13 0)]) (n := 4) (Nat.le_of_ble_eq_true rfl)
  rw [lg_entry_eq]
  generalize (lg_sl ([.ref (g.1 7 0), .int a, .ref (g.1 13 0)]) ++ List.replicate (4 - (lg_sl ([.ref (g.1 7 0), .int a, .ref (g.1 13 0)])).length) Slot.unset).toArray = ls at hl ⊢
  have hl : lv_has ls 4 [(0, .ref (g.1 7 0)), (1, .int a), (2, .ref (g.1 13 0))] := hl
  refine lv_aload_n hx hb dL_limit_0 rfl (lv_at hl 2 rfl) ?_
  refine n_iconst hx hb 0 dL_limit_1 (by decide) ?_
  refine lv_aload_n hx hb dL_limit_2 rfl (lv_at hl 0 rfl) ?_
  refine lv_iload_n hx hb dL_limit_3 rfl (lv_at hl 1 rfl) ?_
  refine m_hVi (As := [.int a]) (rest := [.int (nI 0), .ref (g.1 13 0)]) X Y hA hcx (c_X7_limit l hlt D kc A e0 M hG hwf (fun t ht => hpr t (Nat.le_trans ht (by decide))) a) (cwV 1 X.1.2.2.2.2 gL_limit_X7_limit rfl rfl rfl (by decide +kernel) ⟨Nat.le_of_ble_eq_true rfl, Nat.le_of_ble_eq_true rfl⟩) (hG.f7 (hpr 7 (by decide))) rfl rfl rfl hl.1 (Nat.le_of_ble_eq_true rfl) dL_limit_4 ⟨by decide, by decide⟩ (fun E ce q9 M1 H locs hpx Y hce hcv hcl => ?_) (fun r M1 H locs hp Y => ?_)
  · obtain ⟨hc, hu⟩ := hpx
    have hx1 := sp_limit_x σ a
    have hx2 : (sp_limit σ a).2.2 = σ := hx1.2 hc
    replace hx1 := hx1.1
    have hk : (sp_limit σ a).1 = 1 := by omega
    rw [hk] at hu
    have eE : E = exn 1 := (Prod.mk.inj hu).1
    have eM : M1 = M := (Prod.mk.inj hu).2
    rw [eM] at Y
    subst eE
    refine vx_catch (name := exn 1) X.1.2.2.2.1 [] ⟨0, 9, 12, 13⟩ [] htab (fun z hz => by cases hz) (by decide) (by decide) (X.1.2.2.2.2 _ kwL_limit_1) ((hcx.1.2.1 (exn 1, exn 1) (by decide)).use rfl) hce hcv hcl ?_
    show W p l e _ s m _ below meth c H locs _ _ _ (F0 m 12 ls [.ref q9])
    refine lv_astore_n (lv' := [(3, .ref q9), (0, .ref (g.1 7 0)), (1, .int a), (2, .ref (g.1 13 0))]) hx hb dL_limit_12 rfl hl (by decide) rfl (fun ls hl => ?_)
    refine n_iconst hx hb 1 dL_limit_13 (by decide) ?_
    refine m_iret X Y hr hlocks (by decide) (by decide) ?_ dL_limit_14
    exact LC_x (k := 0) hk hx2 hG
  · obtain ⟨hc0, hr0, g1, hk1, hG1⟩ := hp
    have e13 : g1.1 13 0 = g.1 13 0 := hk1 13 0 (by decide) (by decide) (by decide) (by decide)
    subst hr0
    refine lv_i2l hx hb dL_limit_7 rfl ?_
    have h13 := hG1.f13 (hpr 13 (by decide))
    rw [e13] at h13
    refine m_last X Y (h13) (vp_in_nI (show 0 < 1 by decide) (by decide)) dL_limit_8 (fun H locs Y => ?_)
    rw [nI_cl (show 0 < 2147483648 by decide)] at Y
    have hG2 := hG1.setO (hpr 13 (by decide)) ((sp_limit σ a).2.1.toInt64)
    rw [e13] at hG2
    refine lv_goto (tgt := 15) hx hb dL_limit_9 (by decide) ?_
    refine n_iconst hx hb 0 dL_limit_15 (by decide) ?_
    refine m_iret X Y hr hlocks (by decide) (by decide) ?_ dL_limit_16
    exact LC_0 hc0 hk1 hG2
theorem kwL_net_1 : Cond.classLink RL 13 "java/lang/IndexOutOfBoundsException" ∈ wsL_net := List.mem_of_getElem? (i := 1) rfl
set_option maxHeartbeats 4000000 in
set_option maxRecDepth 100000 in
theorem c_L_net (l : Launch) (hlt : l.stackTraces = false) (D : va_G) (kc : Nat → ClassId) (A : Nat → Prop) (e0 : Nat × Nat) (M : Mp) {pr : Nat → Prop} {σ τ : Sg} {th : Int32} {o : Int64} {g : Gh} {nn : Nat} (hG : G pr kc e0 σ τ th o g M) (hwf : WS nn σ) (hpr : ∀ t, t ≤ 13 → pr t) (a : Int32) (b : Bool) : Met l yL_net wsL_net ({ frames := 9, cells := 12, slots := 320, locals := 323 }) (mPre D kc A e0 M [.ref (g.1 7 0), .int a, .int (nI b.toNat), .ref (g.1 13 0)]) (va_Qi (LC pr kc e0 τ th g (sp_net σ a b).1 (sp_net σ a b).2 σ) (mB D A) A) 12 320 A := by
  refine va_MetW (cc := cL_net) (maxL := 5) (ret := (some .int)) (hh := [(0, 9, 12, 13)]) (by decide) rfl ?_
  intro p e s m args below meth c s₁ B hml hv
  have htab := vx_table (x := yL_net) B (atoms_spec (ws := wsL_net) B.pre _ List.mem_cons_self)
  obtain ⟨rfl, hw, hK, hA, hcx⟩ := hv
  have X : mX p s m _ c cL_net 5 RL wsL_net D kc := ⟨⟨B.exec, B.bytes, hml, findClass_of_methodNamed B.named, atoms_spec (ws := wsL_net) B.pre⟩, hK⟩
  have hx := B.exec
  have hb := B.bytes
  have hr := B.returns
  have hlocks := B.notSynchronized
  have Y : mY D A M s s.heap [] := ⟨hw, va_S.rf⟩
  have hl := lv_entry ([.ref (g.1 7 0), .int a, .int (nI b.toNat), .ref (g.1 13 0)]) (n := 5) (Nat.le_of_ble_eq_true rfl)
  rw [lg_entry_eq]
  generalize (lg_sl ([.ref (g.1 7 0), .int a, .int (nI b.toNat), .ref (g.1 13 0)]) ++ List.replicate (5 - (lg_sl ([.ref (g.1 7 0), .int a, .int (nI b.toNat), .ref (g.1 13 0)])).length) Slot.unset).toArray = ls at hl ⊢
  have hl : lv_has ls 5 [(0, .ref (g.1 7 0)), (1, .int a), (2, .int (nI b.toNat)), (3, .ref (g.1 13 0))] := hl
  refine lv_aload_n hx hb dL_net_0 rfl (lv_at hl 3 rfl) ?_
  refine n_iconst hx hb 0 dL_net_1 (by decide) ?_
  refine lv_aload_n hx hb dL_net_2 rfl (lv_at hl 0 rfl) ?_
  refine lv_iload_n hx hb dL_net_3 rfl (lv_at hl 1 rfl) ?_
  refine lv_iload_n hx hb dL_net_4 rfl (lv_at hl 2 rfl) ?_
  refine m_hVl (As := [.int a, .int (nI b.toNat)]) (rest := [.int (nI 0), .ref (g.1 13 0)]) X Y hA hcx (c_X7_net l hlt D kc A e0 M hG hwf (fun t ht => hpr t (Nat.le_trans ht (by decide))) a b) (cwV 2 X.1.2.2.2.2 gL_net_X7_net rfl rfl rfl (by decide +kernel) ⟨Nat.le_of_ble_eq_true rfl, Nat.le_of_ble_eq_true rfl⟩) (hG.f7 (hpr 7 (by decide))) rfl rfl rfl hl.1 (Nat.le_of_ble_eq_true rfl) dL_net_5 ⟨by decide, by decide⟩ (fun E ce q9 M1 H locs hpx Y hce hcv hcl => ?_) (fun r M1 H locs hp Y => ?_)
  · obtain ⟨hc, hu⟩ := hpx
    have hx1 := sp_net_x σ a b
    have hk : (sp_net σ a b).1 = 1 := by omega
    rw [hk] at hu
    have eE : E = exn 1 := (Prod.mk.inj hu).1
    have eM : M1 = M := (Prod.mk.inj hu).2
    rw [eM] at Y
    subst eE
    refine vx_catch (name := exn 1) X.1.2.2.2.1 [] ⟨0, 9, 12, 13⟩ [] htab (fun z hz => by cases hz) (by decide) (by decide) (X.1.2.2.2.2 _ kwL_net_1) ((hcx.1.2.1 (exn 1, exn 1) (by decide)).use rfl) hce hcv hcl ?_
    show W p l e _ s m _ below meth c H locs _ _ _ (F0 m 12 ls [.ref q9])
    refine lv_astore (lv' := [(4, .ref q9), (0, .ref (g.1 7 0)), (1, .int a), (2, .int (nI b.toNat)), (3, .ref (g.1 13 0))]) hx hb dL_net_12 hl (by decide) rfl (fun ls hl => ?_)
    refine n_iconst hx hb 1 dL_net_14 (by decide) ?_
    refine m_iret X Y hr hlocks (by decide) (by decide) ?_ dL_net_15
    exact LC_x (k := 0) hk rfl hG
  · obtain ⟨hc0, hr0, eM⟩ := hp
    rw [eM] at Y
    subst hr0
    refine m_last X Y (hG.f13 (hpr 13 (by decide))) (vp_in_nI (show 0 < 1 by decide) (by decide)) dL_net_8 (fun H locs Y => ?_)
    rw [nI_cl (show 0 < 2147483648 by decide)] at Y
    have hG2 := hG.setO (hpr 13 (by decide)) ((sp_net σ a b).2)
    refine lv_goto (tgt := 16) hx hb dL_net_9 (by decide) ?_
    refine n_iconst hx hb 0 dL_net_16 (by decide) ?_
    refine m_iret X Y hr hlocks (by decide) (by decide) ?_ dL_net_17
    exact LC_0 hc0 (KG.rf g) hG2
theorem kwL_netAnew_1 : Cond.classLink RL 13 "java/lang/IndexOutOfBoundsException" ∈ wsL_netAnew := List.mem_of_getElem? (i := 1) rfl
set_option maxHeartbeats 4000000 in
set_option maxRecDepth 100000 in
theorem c_L_netAnew (l : Launch) (hlt : l.stackTraces = false) (D : va_G) (kc : Nat → ClassId) (A : Nat → Prop) (e0 : Nat × Nat) (M : Mp) {pr : Nat → Prop} {σ τ : Sg} {th : Int32} {o : Int64} {g : Gh} {nn : Nat} (hG : G pr kc e0 σ τ th o g M) (hwf : WS nn σ) (hpr : ∀ t, t ≤ 13 → pr t) (a : Int32) (hnet : ∀ b, b < 4 → σ.2 0 b = n1S σ b (nC σ) - n2S σ b (nB σ)) : Met l yL_netAnew wsL_netAnew ({ frames := 9, cells := 12, slots := 320, locals := 326 }) (mPre D kc A e0 M [.ref (g.1 7 0), .int a, .ref (g.1 13 0)]) (va_Qi (LC pr kc e0 τ th g (sp_netAnew σ a).1 (sp_netAnew σ a).2 σ) (mB D A) A) 12 320 A := by
  refine va_MetW (cc := cL_netAnew) (maxL := 4) (ret := (some .int)) (hh := [(0, 8, 11, 13)]) (by decide) rfl ?_
  intro p e s m args below meth c s₁ B hml hv
  have htab := vx_table (x := yL_netAnew) B (atoms_spec (ws := wsL_netAnew) B.pre _ List.mem_cons_self)
  obtain ⟨rfl, hw, hK, hA, hcx⟩ := hv
  have X : mX p s m _ c cL_netAnew 4 RL wsL_netAnew D kc := ⟨⟨B.exec, B.bytes, hml, findClass_of_methodNamed B.named, atoms_spec (ws := wsL_netAnew) B.pre⟩, hK⟩
  have hx := B.exec
  have hb := B.bytes
  have hr := B.returns
  have hlocks := B.notSynchronized
  have Y : mY D A M s s.heap [] := ⟨hw, va_S.rf⟩
  have hl := lv_entry ([.ref (g.1 7 0), .int a, .ref (g.1 13 0)]) (n := 4) (Nat.le_of_ble_eq_true rfl)
  rw [lg_entry_eq]
  generalize (lg_sl ([.ref (g.1 7 0), .int a, .ref (g.1 13 0)]) ++ List.replicate (4 - (lg_sl ([.ref (g.1 7 0), .int a, .ref (g.1 13 0)])).length) Slot.unset).toArray = ls at hl ⊢
  have hl : lv_has ls 4 [(0, .ref (g.1 7 0)), (1, .int a), (2, .ref (g.1 13 0))] := hl
  refine lv_aload_n hx hb dL_netAnew_0 rfl (lv_at hl 2 rfl) ?_
  refine n_iconst hx hb 0 dL_netAnew_1 (by decide) ?_
  refine lv_aload_n hx hb dL_netAnew_2 rfl (lv_at hl 0 rfl) ?_
  refine lv_iload_n hx hb dL_netAnew_3 rfl (lv_at hl 1 rfl) ?_
  refine m_hVl (As := [.int a]) (rest := [.int (nI 0), .ref (g.1 13 0)]) X Y hA hcx (c_X7_netAnew l hlt D kc A e0 M hG hwf (fun t ht => hpr t (Nat.le_trans ht (by decide))) a hnet) (cwV 1 X.1.2.2.2.2 gL_netAnew_X7_netAnew rfl rfl rfl (by decide +kernel) ⟨Nat.le_of_ble_eq_true rfl, Nat.le_of_ble_eq_true rfl⟩) (hG.f7 (hpr 7 (by decide))) rfl rfl rfl hl.1 (Nat.le_of_ble_eq_true rfl) dL_netAnew_4 ⟨by decide, by decide⟩ (fun E ce q9 M1 H locs hpx Y hce hcv hcl => ?_) (fun r M1 H locs hp Y => ?_)
  · obtain ⟨hc, hu⟩ := hpx
    have hx1 := sp_netAnew_x σ a
    have hk : (sp_netAnew σ a).1 = 1 := by omega
    rw [hk] at hu
    have eE : E = exn 1 := (Prod.mk.inj hu).1
    have eM : M1 = M := (Prod.mk.inj hu).2
    rw [eM] at Y
    subst eE
    refine vx_catch (name := exn 1) X.1.2.2.2.1 [] ⟨0, 8, 11, 13⟩ [] htab (fun z hz => by cases hz) (by decide) (by decide) (X.1.2.2.2.2 _ kwL_netAnew_1) ((hcx.1.2.1 (exn 1, exn 1) (by decide)).use rfl) hce hcv hcl ?_
    show W p l e _ s m _ below meth c H locs _ _ _ (F0 m 11 ls [.ref q9])
    refine lv_astore_n (lv' := [(3, .ref q9), (0, .ref (g.1 7 0)), (1, .int a), (2, .ref (g.1 13 0))]) hx hb dL_netAnew_11 rfl hl (by decide) rfl (fun ls hl => ?_)
    refine n_iconst hx hb 1 dL_netAnew_12 (by decide) ?_
    refine m_iret X Y hr hlocks (by decide) (by decide) ?_ dL_netAnew_13
    exact LC_x (k := 0) hk rfl hG
  · obtain ⟨hc0, hr0, eM⟩ := hp
    rw [eM] at Y
    subst hr0
    refine m_last X Y (hG.f13 (hpr 13 (by decide))) (vp_in_nI (show 0 < 1 by decide) (by decide)) dL_netAnew_7 (fun H locs Y => ?_)
    rw [nI_cl (show 0 < 2147483648 by decide)] at Y
    have hG2 := hG.setO (hpr 13 (by decide)) ((sp_netAnew σ a).2)
    refine lv_goto (tgt := 14) hx hb dL_netAnew_8 (by decide) ?_
    refine n_iconst hx hb 0 dL_netAnew_14 (by decide) ?_
    refine m_iret X Y hr hlocks (by decide) (by decide) ?_ dL_netAnew_15
    exact LC_0 hc0 (KG.rf g) hG2
theorem kwL_due_1 : Cond.classLink RL 13 "java/lang/IndexOutOfBoundsException" ∈ wsL_due := List.mem_of_getElem? (i := 1) rfl
set_option maxHeartbeats 4000000 in
set_option maxRecDepth 100000 in
theorem c_L_due (l : Launch) (hlt : l.stackTraces = false) (D : va_G) (kc : Nat → ClassId) (A : Nat → Prop) (e0 : Nat × Nat) (M : Mp) {pr : Nat → Prop} {σ τ : Sg} {th : Int32} {o : Int64} {g : Gh} {nn : Nat} (hG : G pr kc e0 σ τ th o g M) (hwf : WS nn σ) (hpr : ∀ t, t ≤ 13 → pr t) (a : Int32) : Met l yL_due wsL_due ({ frames := 9, cells := 12, slots := 320, locals := 323 }) (mPre D kc A e0 M [.ref (g.1 7 0), .int a, .ref (g.1 13 0)]) (va_Qi (LC pr kc e0 τ th g (sp_due σ a).1 (sp_due σ a).2.1.toInt64 (sp_due σ a).2.2) (mB D A) A) 12 320 A := by
  refine va_MetW (cc := cL_due) (maxL := 4) (ret := (some .int)) (hh := [(0, 9, 12, 13)]) (by decide) rfl ?_
  intro p e s m args below meth c s₁ B hml hv
  have htab := vx_table (x := yL_due) B (atoms_spec (ws := wsL_due) B.pre _ List.mem_cons_self)
  obtain ⟨rfl, hw, hK, hA, hcx⟩ := hv
  have X : mX p s m _ c cL_due 4 RL wsL_due D kc := ⟨⟨B.exec, B.bytes, hml, findClass_of_methodNamed B.named, atoms_spec (ws := wsL_due) B.pre⟩, hK⟩
  have hx := B.exec
  have hb := B.bytes
  have hr := B.returns
  have hlocks := B.notSynchronized
  have Y : mY D A M s s.heap [] := ⟨hw, va_S.rf⟩
  have hl := lv_entry ([.ref (g.1 7 0), .int a, .ref (g.1 13 0)]) (n := 4) (Nat.le_of_ble_eq_true rfl)
  rw [lg_entry_eq]
  generalize (lg_sl ([.ref (g.1 7 0), .int a, .ref (g.1 13 0)]) ++ List.replicate (4 - (lg_sl ([.ref (g.1 7 0), .int a, .ref (g.1 13 0)])).length) Slot.unset).toArray = ls at hl ⊢
  have hl : lv_has ls 4 [(0, .ref (g.1 7 0)), (1, .int a), (2, .ref (g.1 13 0))] := hl
  refine lv_aload_n hx hb dL_due_0 rfl (lv_at hl 2 rfl) ?_
  refine n_iconst hx hb 0 dL_due_1 (by decide) ?_
  refine lv_aload_n hx hb dL_due_2 rfl (lv_at hl 0 rfl) ?_
  refine lv_iload_n hx hb dL_due_3 rfl (lv_at hl 1 rfl) ?_
  refine m_hVi (As := [.int a]) (rest := [.int (nI 0), .ref (g.1 13 0)]) X Y hA hcx (c_X7_due l hlt D kc A e0 M hG hwf (fun t ht => hpr t (Nat.le_trans ht (by decide))) a) (cwV 1 X.1.2.2.2.2 gL_due_X7_due rfl rfl rfl (by decide +kernel) ⟨Nat.le_of_ble_eq_true rfl, Nat.le_of_ble_eq_true rfl⟩) (hG.f7 (hpr 7 (by decide))) rfl rfl rfl hl.1 (Nat.le_of_ble_eq_true rfl) dL_due_4 ⟨by decide, by decide⟩ (fun E ce q9 M1 H locs hpx Y hce hcv hcl => ?_) (fun r M1 H locs hp Y => ?_)
  · obtain ⟨hc, hu⟩ := hpx
    have hx1 := sp_due_x σ a
    have hx2 : (sp_due σ a).2.2 = σ := hx1.2 hc
    replace hx1 := hx1.1
    have hk : (sp_due σ a).1 = 1 := by omega
    rw [hk] at hu
    have eE : E = exn 1 := (Prod.mk.inj hu).1
    have eM : M1 = M := (Prod.mk.inj hu).2
    rw [eM] at Y
    subst eE
    refine vx_catch (name := exn 1) X.1.2.2.2.1 [] ⟨0, 9, 12, 13⟩ [] htab (fun z hz => by cases hz) (by decide) (by decide) (X.1.2.2.2.2 _ kwL_due_1) ((hcx.1.2.1 (exn 1, exn 1) (by decide)).use rfl) hce hcv hcl ?_
    show W p l e _ s m _ below meth c H locs _ _ _ (F0 m 12 ls [.ref q9])
    refine lv_astore_n (lv' := [(3, .ref q9), (0, .ref (g.1 7 0)), (1, .int a), (2, .ref (g.1 13 0))]) hx hb dL_due_12 rfl hl (by decide) rfl (fun ls hl => ?_)
    refine n_iconst hx hb 1 dL_due_13 (by decide) ?_
    refine m_iret X Y hr hlocks (by decide) (by decide) ?_ dL_due_14
    exact LC_x (k := 0) hk hx2 hG
  · obtain ⟨hc0, hr0, g1, hk1, hG1⟩ := hp
    have e13 : g1.1 13 0 = g.1 13 0 := hk1 13 0 (by decide) (by decide) (by decide) (by decide)
    subst hr0
    refine lv_i2l hx hb dL_due_7 rfl ?_
    have h13 := hG1.f13 (hpr 13 (by decide))
    rw [e13] at h13
    refine m_last X Y (h13) (vp_in_nI (show 0 < 1 by decide) (by decide)) dL_due_8 (fun H locs Y => ?_)
    rw [nI_cl (show 0 < 2147483648 by decide)] at Y
    have hG2 := hG1.setO (hpr 13 (by decide)) ((sp_due σ a).2.1.toInt64)
    rw [e13] at hG2
    refine lv_goto (tgt := 15) hx hb dL_due_9 (by decide) ?_
    refine n_iconst hx hb 0 dL_due_15 (by decide) ?_
    refine m_iret X Y hr hlocks (by decide) (by decide) ?_ dL_due_16
    exact LC_0 hc0 hk1 hG2
theorem kwL_count_1 : Cond.classLink RL 19 "java/lang/IllegalArgumentException" ∈ wsL_count := List.mem_of_getElem? (i := 1) rfl
set_option maxHeartbeats 4000000 in
set_option maxRecDepth 100000 in
theorem c_L_count (l : Launch) (hlt : l.stackTraces = false) (D : va_G) (kc : Nat → ClassId) (A : Nat → Prop) (e0 : Nat × Nat) (M : Mp) {pr : Nat → Prop} {σ τ : Sg} {th : Int32} {o : Int64} {g : Gh} {nn : Nat} (hG : G pr kc e0 σ τ th o g M) (hwf : WS nn σ) (hpr : ∀ t, t ≤ 13 → pr t) (a : Int32) (hfe : σ.1 21 0 = feS σ (nC σ)) : Met l yL_count wsL_count ({ frames := 9, cells := 12, slots := 320, locals := 321 }) (mPre D kc A e0 M [.ref (g.1 7 0), .int a, .ref (g.1 13 0)]) (va_Qi (LC pr kc e0 τ th g (sp_count σ a).1 (sp_count σ a).2.1.toInt64 (sp_count σ a).2.2) (mB D A) A) 12 320 A := by
  refine va_MetW (cc := cL_count) (maxL := 4) (ret := (some .int)) (hh := [(0, 9, 12, 19)]) (by decide) rfl ?_
  intro p e s m args below meth c s₁ B hml hv
  have htab := vx_table (x := yL_count) B (atoms_spec (ws := wsL_count) B.pre _ List.mem_cons_self)
  obtain ⟨rfl, hw, hK, hA, hcx⟩ := hv
  have X : mX p s m _ c cL_count 4 RL wsL_count D kc := ⟨⟨B.exec, B.bytes, hml, findClass_of_methodNamed B.named, atoms_spec (ws := wsL_count) B.pre⟩, hK⟩
  have hx := B.exec
  have hb := B.bytes
  have hr := B.returns
  have hlocks := B.notSynchronized
  have Y : mY D A M s s.heap [] := ⟨hw, va_S.rf⟩
  have hl := lv_entry ([.ref (g.1 7 0), .int a, .ref (g.1 13 0)]) (n := 4) (Nat.le_of_ble_eq_true rfl)
  rw [lg_entry_eq]
  generalize (lg_sl ([.ref (g.1 7 0), .int a, .ref (g.1 13 0)]) ++ List.replicate (4 - (lg_sl ([.ref (g.1 7 0), .int a, .ref (g.1 13 0)])).length) Slot.unset).toArray = ls at hl ⊢
  have hl : lv_has ls 4 [(0, .ref (g.1 7 0)), (1, .int a), (2, .ref (g.1 13 0))] := hl
  refine lv_aload_n hx hb dL_count_0 rfl (lv_at hl 2 rfl) ?_
  refine n_iconst hx hb 0 dL_count_1 (by decide) ?_
  refine lv_aload_n hx hb dL_count_2 rfl (lv_at hl 0 rfl) ?_
  refine lv_iload_n hx hb dL_count_3 rfl (lv_at hl 1 rfl) ?_
  refine m_hVi (As := [.int a]) (rest := [.int (nI 0), .ref (g.1 13 0)]) X Y hA hcx (c_X7_count l hlt D kc A e0 M hG hwf (fun t ht => hpr t (Nat.le_trans ht (by decide))) a hfe) (cwV 1 X.1.2.2.2.2 gL_count_X7_count rfl rfl rfl (by decide +kernel) ⟨Nat.le_of_ble_eq_true rfl, Nat.le_of_ble_eq_true rfl⟩) (hG.f7 (hpr 7 (by decide))) rfl rfl rfl hl.1 (Nat.le_of_ble_eq_true rfl) dL_count_4 ⟨by decide, by decide⟩ (fun E ce q9 M1 H locs hpx Y hce hcv hcl => ?_) (fun r M1 H locs hp Y => ?_)
  · obtain ⟨hc, hu⟩ := hpx
    have hx1 := sp_count_x σ a
    have hx2 : (sp_count σ a).2.2 = σ := hx1.2 hc
    replace hx1 := hx1.1
    have hk : (sp_count σ a).1 = 1 := by omega
    rw [hk] at hu
    have eE : E = exn 2 := (Prod.mk.inj hu).1
    have eM : M1 = M := (Prod.mk.inj hu).2
    rw [eM] at Y
    subst eE
    refine vx_catch (name := exn 2) X.1.2.2.2.1 [] ⟨0, 9, 12, 19⟩ [] htab (fun z hz => by cases hz) (by decide) (by decide) (X.1.2.2.2.2 _ kwL_count_1) ((hcx.1.2.1 (exn 2, exn 2) (by decide)).use rfl) hce hcv hcl ?_
    show W p l e _ s m _ below meth c H locs _ _ _ (F0 m 12 ls [.ref q9])
    refine lv_astore_n (lv' := [(3, .ref q9), (0, .ref (g.1 7 0)), (1, .int a), (2, .ref (g.1 13 0))]) hx hb dL_count_12 rfl hl (by decide) rfl (fun ls hl => ?_)
    refine n_iconst hx hb 1 dL_count_13 (by decide) ?_
    refine m_iret X Y hr hlocks (by decide) (by decide) ?_ dL_count_14
    exact LC_x (k := 0) hk hx2 hG
  · obtain ⟨hc0, hr0, g1, hk1, hG1⟩ := hp
    have e13 : g1.1 13 0 = g.1 13 0 := hk1 13 0 (by decide) (by decide) (by decide) (by decide)
    subst hr0
    refine lv_i2l hx hb dL_count_7 rfl ?_
    have h13 := hG1.f13 (hpr 13 (by decide))
    rw [e13] at h13
    refine m_last X Y (h13) (vp_in_nI (show 0 < 1 by decide) (by decide)) dL_count_8 (fun H locs Y => ?_)
    rw [nI_cl (show 0 < 2147483648 by decide)] at Y
    have hG2 := hG1.setO (hpr 13 (by decide)) ((sp_count σ a).2.1.toInt64)
    rw [e13] at hG2
    refine lv_goto (tgt := 15) hx hb dL_count_9 (by decide) ?_
    refine n_iconst hx hb 0 dL_count_15 (by decide) ?_
    refine m_iret X Y hr hlocks (by decide) (by decide) ?_ dL_count_16
    exact LC_0 hc0 hk1 hG2
