/-! every call keeps what is always so -/
theorem vI_lt {x : Int32} {n : Nat} (h : vI x n = true) : ix x < n := by
  simp only [vI, Bool.and_eq_true, decide_eq_true_eq] at h; unfold ix; omega
theorem rI_b {x : Int32} {lo hi : Nat} (h : rI x lo hi = true) : lo ≤ ix x ∧ ix x ≤ hi := by
  simp only [rI, Bool.and_eq_true, decide_eq_true_eq] at h; unfold ix; omega
section WFC
variable {n : Nat} {σ : Sg}
theorem WF_sp_shop (h : WF n σ) (a b : Int32) : WF n (sp_shop σ a b).2.2 := by
  unfold sp_shop; split
  · rename_i h1; rw [Bool.and_eq_true] at h1; exact WF_kd h _ (vI_lt h1.2)
  · exact h
theorem WF_sp_kind (h : WF n σ) (a b d : Int32) : WF n (sp_kind σ a b d).2.2 := by
  unfold sp_kind; split
  · split
    · rename_i h1; rw [Bool.and_eq_true] at h1; exact WF_kn h _ (rI_b h1.1).2 (rI_b h1.2).2
    · exact h
  · exact h
theorem WF_sp_authorise (h : WF n σ) (a b d : Int32) : WF n (sp_authorise σ a b d).2.2 := by
  unfold sp_authorise; split
  · rename_i h1; rw [Bool.and_eq_true] at h1
    split
    · rename_i h2
      split
      · rename_i h3
        split
        · exact WF_pay h (vI_lt h1.1) (vI_lt h1.2) (rI_b h2).1 (rI_b h2).2 h3
        · exact h
      · exact h
    · exact h
  · exact h
theorem WF_sp_capture (h : WF n σ) (a b : Int32) : WF n (sp_capture σ a b).2.2 := by
  unfold sp_capture; split
  · rename_i h1; split
    · rename_i h2; split
      · rename_i h3; exact WF_cap h (vI_lt h1) (rI_b h2).1 h3.2.1 h3.2.2
      · exact h
    · exact h
  · exact h
theorem WF_sp_cancel (h : WF n σ) (a : Int32) : WF n (sp_cancel σ a).2.2 := by
  unfold sp_cancel; split
  · rename_i h1; split
    · exact WF_void h (vI_lt h1)
    · exact h
  · exact h
theorem WF_sp_refund (h : WF n σ) (a b : Int32) : WF n (sp_refund σ a b).2.2 := by
  unfold sp_refund; split
  · rename_i h1; split
    · split
      · rename_i h3; exact WF_ref h (vI_lt h1) h3
      · exact h
    · exact h
  · exact h
theorem WF_sp_dispute (h : WF n σ) (a b : Int32) : WF n (sp_dispute σ a b).2.2 := by
  unfold sp_dispute; split
  · rename_i h1; split
    · rename_i h2; split
      · rename_i h3; exact WF_cb h (vI_lt h1) h3.1 (rI_b h2).1 h3.2
      · exact h
    · exact h
  · exact h
theorem WF_sp_answer (h : WF n σ) (a : Int32) : WF n (sp_answer σ a).2.2 := by
  unfold sp_answer; split
  · rename_i h1; split
    · rename_i h2; exact WF_ans h (vI_lt h1) h2 (by have := h.1.1.2; omega)
    · exact h
  · exact h
theorem WF_sp_press (h : WF n σ) (a : Int32) : WF n (sp_press σ a).2.2 := by
  unfold sp_press; split
  · rename_i h1; split
    · rename_i h2; exact WF_prs h (vI_lt h1) h2
    · exact h
  · exact h
theorem WF_sp_rule (h : WF n σ) (a : Int32) (b : Bool) : WF n (sp_rule σ a b).2.2 := by
  unfold sp_rule; split
  · rename_i h1; split
    · rename_i h2; cases b
      · exact WF_los h (vI_lt h1) h2
      · exact WF_won h (vI_lt h1) h2
    · exact h
  · exact h
theorem WF_sp_pass (h : WF n σ) (hn : n + 1 ≤ 600) (a : Int32) : WF (n + 1) (sp_pass σ a).2.2 := by
  unfold sp_pass; split
  · rename_i h1; exact WF_pas h hn (rI_b h1).2
  · exact h.mono (by omega) hn
theorem sp_paymentOf_s (a b : Int32) : (sp_paymentOf σ a b).2.2 = σ := by unfold sp_paymentOf; (repeat' split) <;> rfl
theorem sp_captureOf_s (a b : Int32) : (sp_captureOf σ a b).2.2 = σ := by unfold sp_captureOf; (repeat' split) <;> rfl
theorem sp_chargebackOf_s (a b : Int32) : (sp_chargebackOf σ a b).2.2 = σ := by unfold sp_chargebackOf; (repeat' split) <;> rfl
theorem sp_limit_s (a : Int32) : (sp_limit σ a).2.2 = σ := by unfold sp_limit; split <;> rfl
theorem sp_due_s (a : Int32) : (sp_due σ a).2.2 = σ := by unfold sp_due; split <;> rfl
theorem sp_count_s (a : Int32) : (sp_count σ a).2.2 = σ := by unfold sp_count; split <;> rfl
end WFC
/-- the numbers at the start -/
def sg0 : Sg := (fun t j => if t = 2 then (if j < 3 then 10 else 0) else if t = 3 then (if j < 3 then 500 else 0) else 0, fun _ _ => 0)
theorem WF_0 : WF 0 sg0 := by
  refine ⟨⟨⟨by decide, by decide⟩, fun s => by show 0 < 3; decide, fun k => ⟨by show (if k < 3 then 10 else 0) ≤ 100; split <;> decide, by show (if k < 3 then 500 else 0) ≤ 9999; split <;> decide⟩, ⟨by decide, by decide, by decide⟩, fun j hj => absurd hj (Nat.not_lt_zero j), fun j _ => ⟨rfl, rfl⟩, fun k hk => absurd hk (Nat.not_lt_zero k), fun k _ => rfl, fun j hj => absurd hj (Nat.not_lt_zero j)⟩, rfl, fun b _ => rfl⟩
