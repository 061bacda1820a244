/-! what every call does to the numbers, and answers: which of its exceptions (0: none), the answer, the numbers then -/
def vI (x : Int32) (n : Nat) : Bool := decide (0 ≤ x.toInt) && decide (x.toInt < (n : Int))
def rI (x : Int32) (lo hi : Nat) : Bool := decide ((lo : Int) ≤ x.toInt) && decide (x.toInt ≤ (hi : Int))
def ix (x : Int32) : Nat := x.toInt.toNat
theorem nI_tI {n : Nat} (h : n < 2147483648) : (nI n).toInt = (n : Int) := nI_toInt h
theorem nI_inj {a b : Nat} (ha : a < 2147483648) (hb : b < 2147483648) (h : nI a = nI b) : a = b := (nI_eq ha hb).mp h
theorem ix_nI {j : Nat} (h : j < 2147483648) : ix (nI j) = j := by simp [ix, nI_tI h]
theorem nI_ix {x : Int32} (h : 0 ≤ x.toInt) : x = nI (ix x) := by
  have hx := Int32.toInt_lt x
  rw [← Int32.toInt_inj, nI_tI (by unfold ix; omega)]
  unfold ix
  omega
theorem vI_t {x : Int32} {n : Nat} (h : vI x n = true) : ∃ j, j < n ∧ j < 2147483648 ∧ x = nI j := by
  simp only [vI, Bool.and_eq_true, decide_eq_true_eq] at h
  have hx := Int32.toInt_lt x
  exact ⟨ix x, by unfold ix; omega, by unfold ix; omega, nI_ix h.1⟩
theorem vI_nI {j n : Nat} (h : j < n) (h2 : j < 2147483648) : vI (nI j) n = true := by
  simp only [vI, nI_tI h2, Bool.and_eq_true, decide_eq_true_eq]
  omega
theorem vI_f {x : Int32} {n : Nat} (h : vI x n = false) (hn : n < 2147483648) : x < 0 ∨ nI n ≤ x := by
  simp only [vI, Bool.and_eq_false_iff, decide_eq_false_iff_not] at h
  rw [Int32.lt_iff_toInt_lt, Int32.le_iff_toInt_le, nI_tI hn, show (0 : Int32).toInt = 0 from rfl]
  omega
theorem rI_t {x : Int32} {lo hi : Nat} (h : rI x lo hi = true) : ∃ j, lo ≤ j ∧ j ≤ hi ∧ j < 2147483648 ∧ x = nI j := by
  simp only [rI, Bool.and_eq_true, decide_eq_true_eq] at h
  have hx := Int32.toInt_lt x
  exact ⟨ix x, by unfold ix; omega, by unfold ix; omega, by unfold ix; omega, nI_ix (by omega)⟩
theorem rI_nI {j lo hi : Nat} (h1 : lo ≤ j) (h2 : j ≤ hi) (h3 : j < 2147483648) : rI (nI j) lo hi = true := by
  simp only [rI, nI_tI h3, Bool.and_eq_true, decide_eq_true_eq]
  omega
theorem rI_f {x : Int32} {lo hi : Nat} (h : rI x lo hi = false) (h1 : lo < 2147483648) (h2 : hi < 2147483648) : x < nI lo ∨ nI hi < x := by
  simp only [rI, Bool.and_eq_false_iff, decide_eq_false_iff_not] at h
  rw [Int32.lt_iff_toInt_lt, Int32.lt_iff_toInt_lt, nI_tI h1, nI_tI h2]
  omega
abbrev nP (σ : Sg) : Nat := σ.1 4 0
abbrev nC (σ : Sg) : Nat := σ.1 11 0
abbrev nB (σ : Sg) : Nat := σ.1 16 0
abbrev tD (σ : Sg) : Nat := σ.1 0 0
abbrev cBk (σ : Sg) (k : Nat) : Nat := σ.1 5 (σ.1 12 k) / 3
abbrev sBk (σ : Sg) (k : Nat) : Nat := σ.1 6 (σ.1 12 k) % 4
/-- bank a pays bank b -/
def payN (ν : Nat → Nat → Int) (a b : Nat) (v : Int) : Nat → Nat → Int := fun t i => if t ≤ 1 then ν t i - (if i = a then v else 0) + (if i = b then v else 0) else ν t i
def lmL (σ : Sg) (cd : Nat) : Nat → Nat → Nat → Nat × Nat
  | 0, s, n => (s, n)
  | k + 1, s, n => if n < 5 then (if σ.1 5 (σ.1 12 k) = cd then lmL σ cd k (s + σ.1 13 k) (n + 1) else lmL σ cd k s n) else (s, n)
def limO (r : Nat × Nat) : Nat := if r.2 = 0 then 10000 else if 500 < 3 * r.1 / r.2 then 3 * r.1 / r.2 else 500
def limN (σ : Sg) (cd : Nat) : Nat := limO (lmL σ cd (nC σ) 0 0)
def gbS (σ : Sg) (k : Nat) : Nat → Nat
  | 0 => σ.1 15 k
  | j + 1 => gbS σ k j + (if σ.1 18 j = k ∧ σ.1 17 j ≠ 4 then σ.1 19 j else 0)
def gb (σ : Sg) (k : Nat) : Nat := gbS σ k (nB σ)
def prS (σ : Sg) : Nat → Nat
  | 0 => 0
  | j + 1 => prS σ j + (if σ.1 17 j = 2 then 1 else 0)
def feS (σ : Sg) : Nat → Nat
  | 0 => 0
  | j + 1 => feS σ j + σ.1 14 j
abbrev alive (σ : Sg) (j : Nat) : Prop := σ.1 10 j = 0 ∧ σ.1 0 0 ≤ σ.1 9 j
abbrev isDu (σ : Sg) (j : Nat) : Prop := σ.1 17 j ≤ 1
abbrev ahd (σ : Sg) (a b : Nat) : Prop := σ.1 20 a < σ.1 20 b ∨ (σ.1 20 a = σ.1 20 b ∧ (σ.1 19 b < σ.1 19 a ∨ (σ.1 19 a = σ.1 19 b ∧ a < b)))
def raS (σ : Sg) (b : Nat) : Nat → Nat
  | 0 => 0
  | j + 1 => raS σ b j + (if j ≠ b ∧ isDu σ j ∧ ahd σ j b then 1 else 0)
def duS (σ : Sg) (r : Nat) : Nat → Int32
  | 0 => -1
  | j + 1 => if isDu σ j ∧ raS σ j (nB σ) = r then nI j else duS σ r j
abbrev An : Type := Nat × Int32 × Sg
def sp_shop (σ : Sg) (a b : Int32) : An := if vI a 8 && vI b 3 then (0, nI (σ.1 1 (ix a)), (up2 σ.1 1 (ix a) (ix b), σ.2)) else (1, 0, σ)
def sp_kind (σ : Sg) (a b d : Int32) : An := if vI a 3 then (if rI b 0 100 && rI d 0 9999 then (0, nI (feeN (ix d) (ix b) 10000), (up2 (up2 σ.1 2 (ix a) (ix b)) 3 (ix a) (ix d), σ.2)) else (2, 0, σ)) else (1, 0, σ)
def addPay (σ : Sg) (cd sh v : Nat) : Sg := (up2 (up2 (up2 (up2 (up2 σ.1 5 (nP σ) cd) 6 (nP σ) sh) 7 (nP σ) v) 9 (nP σ) (tD σ + 7)) 4 0 (nP σ + 1), σ.2)
def sp_authorise (σ : Sg) (a b d : Int32) : An := if vI a 12 && vI b 8 then (if rI d 1 100000 then (if nP σ < 60 then (if ix d ≤ limN σ (ix a) then (0, nI (nP σ), addPay σ (ix a) (ix b) (ix d)) else (0, -1, σ)) else (3, 0, σ)) else (2, 0, σ)) else (1, 0, σ)
def cfeN (σ : Sg) (j v : Nat) : Nat := feeN (σ.1 3 (σ.1 1 (σ.1 6 j))) (σ.1 2 (σ.1 1 (σ.1 6 j))) v
def addCap (σ : Sg) (j v : Nat) : Sg := (up2 (up2 (up2 (up2 (up2 (up2 σ.1 12 (nC σ) j) 13 (nC σ) v) 14 (nC σ) (cfeN σ j v)) 8 j (σ.1 8 j + v)) 11 0 (nC σ + 1)) 21 0 (σ.1 21 0 + cfeN σ j v), payN σ.2 (σ.1 5 j / 3) (σ.1 6 j % 4) ((v : Int) - (cfeN σ j v : Int)))
def sp_capture (σ : Sg) (a b : Int32) : An := if vI a (nP σ) then (if rI b 1 100000 then (if alive σ (ix a) ∧ σ.1 8 (ix a) + ix b ≤ σ.1 7 (ix a) ∧ nC σ < 100 then (0, nI (nC σ), addCap σ (ix a) (ix b)) else (3, 0, σ)) else (2, 0, σ)) else (1, 0, σ)
def sp_cancel (σ : Sg) (a : Int32) : An := if vI a (nP σ) then (if alive σ (ix a) then (0, nI (σ.1 7 (ix a) - σ.1 8 (ix a)), (up2 σ.1 10 (ix a) 1, σ.2)) else (2, 0, σ)) else (1, 0, σ)
def addRef (σ : Sg) (k v : Nat) : Sg := (up2 σ.1 15 k (σ.1 15 k + v), payN σ.2 (sBk σ k) (cBk σ k) v)
def sp_refund (σ : Sg) (a b : Int32) : An := if vI a (nC σ) then (if rI b 1 100000 then (if ix b + gb σ (ix a) ≤ σ.1 13 (ix a) then (0, nI (gb (addRef σ (ix a) (ix b)) (ix a)), addRef σ (ix a) (ix b)) else (3, 0, σ)) else (2, 0, σ)) else (1, 0, σ)
def addCb (σ : Sg) (k v : Nat) : Sg := (up2 (up2 (up2 (up2 (up2 σ.1 17 (nB σ) 0) 18 (nB σ) k) 19 (nB σ) v) 20 (nB σ) (tD σ + 10)) 16 0 (nB σ + 1), payN σ.2 (sBk σ k) (cBk σ k) v)
def sp_dispute (σ : Sg) (a b : Int32) : An := if vI a (nC σ) then (if rI b 1 100000 then (if ix b + gb σ (ix a) ≤ σ.1 13 (ix a) ∧ nB σ < 60 then (0, nI (nB σ), addCb σ (ix a) (ix b)) else (3, 0, σ)) else (2, 0, σ)) else (1, 0, σ)
def ansS (σ : Sg) (c : Nat) : Sg := (up2 (up2 σ.1 17 c 1) 20 c (tD σ + 10), payN σ.2 (cBk σ (σ.1 18 c)) (sBk σ (σ.1 18 c)) (σ.1 19 c))
def sp_answer (σ : Sg) (a : Int32) : An := if vI a (nB σ) then (if σ.1 17 (ix a) = 0 then (0, nI (tD σ + 10), ansS σ (ix a)) else (2, 0, σ)) else (1, 0, σ)
def prsS (σ : Sg) (c : Nat) : Sg := (up2 σ.1 17 c 2, payN σ.2 (sBk σ (σ.1 18 c)) (cBk σ (σ.1 18 c)) (σ.1 19 c))
def sp_press (σ : Sg) (a : Int32) : An := if vI a (nB σ) then (if σ.1 17 (ix a) = 1 then (0, nI (prS (prsS σ (ix a)) (nB σ)), prsS σ (ix a)) else (2, 0, σ)) else (1, 0, σ)
def losS (σ : Sg) (c : Nat) : Sg := (up2 σ.1 17 c 4, payN σ.2 (cBk σ (σ.1 18 c)) (sBk σ (σ.1 18 c)) (σ.1 19 c))
def sp_rule (σ : Sg) (a : Int32) (b : Bool) : An := if vI a (nB σ) then (if σ.1 17 (ix a) = 2 then (if b then (0, nI 3, (up2 σ.1 17 (ix a) 3, σ.2)) else (0, nI 4, losS σ (ix a))) else (2, 0, σ)) else (1, 0, σ)
def pasS (σ : Sg) (d : Nat) : Sg := (fun t i => if t = 0 ∧ i = 0 then tD σ + d else if t = 17 ∧ i < nB σ then eil (σ.1 17 i) (σ.1 20 i) (tD σ + d) else σ.1 t i, fun t i => if t = 1 ∧ i < 4 then 0 else σ.2 t i)
def sp_pass (σ : Sg) (a : Int32) : An := if rI a 1 100 then (0, nI (tD σ + ix a), pasS σ (ix a)) else (1, 0, σ)
def pofN (σ : Sg) (j w : Nat) : Int32 := if w = 0 then nI (σ.1 5 j) else if w = 1 then nI (σ.1 6 j) else if w = 2 then nI (σ.1 7 j) else if w = 3 then nI (σ.1 8 j) else if w = 4 then nI (σ.1 9 j) else bN (alive σ j ∧ σ.1 8 j < σ.1 7 j)
def sp_paymentOf (σ : Sg) (a b : Int32) : An := if vI a (nP σ) then (if vI b 6 then (0, pofN σ (ix a) (ix b), σ) else (2, 0, σ)) else (1, 0, σ)
def cofN (σ : Sg) (k w : Nat) : Int32 := if w = 0 then nI (σ.1 12 k) else if w = 1 then nI (σ.1 13 k) else if w = 2 then nI (σ.1 14 k) else if w = 3 then nI (σ.1 15 k) else nI (gb σ k)
def sp_captureOf (σ : Sg) (a b : Int32) : An := if vI a (nC σ) then (if vI b 5 then (0, cofN σ (ix a) (ix b), σ) else (2, 0, σ)) else (1, 0, σ)
def bofN (σ : Sg) (c w : Nat) : Int32 := if w = 0 then nI (σ.1 17 c) else if w = 1 then nI (σ.1 18 c) else if w = 2 then nI (σ.1 19 c) else cbl (σ.1 17 c) (σ.1 20 c)
def sp_chargebackOf (σ : Sg) (a b : Int32) : An := if vI a (nB σ) then (if vI b 4 then (0, bofN σ (ix a) (ix b), σ) else (2, 0, σ)) else (1, 0, σ)
def sp_limit (σ : Sg) (a : Int32) : An := if vI a 12 then (0, nI (limN σ (ix a)), σ) else (1, 0, σ)
def sp_net (σ : Sg) (a : Int32) (b : Bool) : Nat × Int64 := if vI a 4 then (0, lI (if b then σ.2 0 (ix a) else σ.2 1 (ix a))) else (1, 0)
def sp_netAnew (σ : Sg) (a : Int32) : Nat × Int64 := if vI a 4 then (0, lI (σ.2 0 (ix a))) else (1, 0)
def sp_due (σ : Sg) (a : Int32) : An := if 0 ≤ a.toInt then (0, duS σ (ix a) (nB σ), σ) else (1, 0, σ)
def cntN (σ : Sg) (w : Nat) : Nat := if w = 0 then nP σ else if w = 1 then nC σ else if w = 2 then nB σ else if w = 3 then σ.1 21 0 else tD σ
def sp_count (σ : Sg) (a : Int32) : An := if vI a 5 then (0, nI (cntN σ (ix a)), σ) else (1, 0, σ)
/-! what is always so -/
def shz (σ : Sg) (k b : Nat) (v : Int) : Int := (if sBk σ k = b then v else 0) - (if cBk σ k = b then v else 0)
def n1S (σ : Sg) (b : Nat) : Nat → Int
  | 0 => 0
  | k + 1 => n1S σ b k + shz σ k b ((σ.1 13 k : Int) - σ.1 14 k - σ.1 15 k)
def n2S (σ : Sg) (b : Nat) : Nat → Int
  | 0 => 0
  | j + 1 => n2S σ b j + (if σ.1 17 j = 0 ∨ σ.1 17 j = 2 ∨ σ.1 17 j = 3 then shz σ (σ.1 18 j) b (σ.1 19 j) else 0)
def WS (n : Nat) (σ : Sg) : Prop :=
  (n ≤ 600 ∧ tD σ ≤ 100 * n) ∧ (∀ s, σ.1 1 s < 3) ∧ (∀ k, σ.1 2 k ≤ 100 ∧ σ.1 3 k ≤ 9999) ∧ (nP σ ≤ 60 ∧ nC σ ≤ 100 ∧ nB σ ≤ 60) ∧
  (∀ j, j < nP σ → σ.1 5 j < 12 ∧ σ.1 6 j < 8 ∧ 1 ≤ σ.1 7 j ∧ σ.1 7 j ≤ 100000 ∧ σ.1 8 j ≤ σ.1 7 j ∧ σ.1 9 j ≤ 100 * n + 7 ∧ σ.1 10 j ≤ 1) ∧
  (∀ j, nP σ ≤ j → σ.1 8 j = 0 ∧ σ.1 10 j = 0) ∧
  (∀ k, k < nC σ → σ.1 12 k < nP σ ∧ 1 ≤ σ.1 13 k ∧ σ.1 13 k ≤ 100000 ∧ σ.1 14 k ≤ σ.1 13 k ∧ gb σ k ≤ σ.1 13 k) ∧
  (∀ k, nC σ ≤ k → σ.1 15 k = 0) ∧
  ∀ j, j < nB σ → σ.1 17 j ≤ 4 ∧ σ.1 18 j < nC σ ∧ 1 ≤ σ.1 19 j ∧ σ.1 19 j ≤ 100000 ∧ σ.1 20 j ≤ 100 * n + 10
def WF (n : Nat) (σ : Sg) : Prop := WS n σ ∧ σ.1 21 0 = feS σ (nC σ) ∧ ∀ b, b < 4 → σ.2 0 b = n1S σ b (nC σ) - n2S σ b (nB σ)
abbrev bef (σ : Sg) (a b : Nat) : Prop := dueB (cbl (σ.1 17 a) (σ.1 20 a)) (σ.1 19 a) a (cbl (σ.1 17 b) (σ.1 20 b)) (σ.1 19 b) b
def beh (σ : Sg) : Option Nat → Nat → Prop
  | none, _ => True
  | some x, i => bef σ x i
def nx1 (σ : Sg) (la : Option Nat) (i : Nat) (nx r : Option Nat) : Prop := (isDu σ i ∧ beh σ la i ∧ (nx = none ∨ ∃ m, nx = some m ∧ bef σ i m) → r = some i) ∧ (¬ (isDu σ i ∧ beh σ la i ∧ (nx = none ∨ ∃ m, nx = some m ∧ bef σ i m)) → r = nx)
/-- what is found among the first i -/
def nxR (σ : Sg) (la : Option Nat) : Nat → Option Nat → Prop
  | 0, r => r = none
  | i + 1, r => ∃ nx, nxR σ la i nx ∧ nx1 σ la i nx r
