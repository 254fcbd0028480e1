/-! relation of the two states (51.rel-def): written by wip/whole/rel -/
/-- information held on both sides -/
def rl_inf (u : Nat) (v : Int64) (h l : Int32) (w : Int64) (h' l' : Int32) : Prop := (u = 0 ∧ l' = 0) ∨ (u = 1 ∧ ∃ r c b p n m : Nat, r < 128 ∧ b < 128 ∧ p < 4 ∧ c ≤ 50 * n ∧ n ≤ 5 ∧ 1 ≤ m ∧ m ≤ 6 ∧ v = rl_v r c b p ∧ w = rl_w r c b p ∧ h = nI n ∧ h' = nI n ∧ l = nI m ∧ l' = nI m)
def rl_p (j : Nat) : Option Nat := if 1 ≤ j ∧ j < 100 then some (j - 1) else none
def rl_s (j : Nat) : Option Nat := if 100 ≤ j then some (j - 100) else none
def rl_mm (nf : Nat) (fs fd fv : Nat → Nat) (fw : Nat → Int32) (k1 : Int32) (v : Int64) (ro ho : Int32) (pr : Nat) (fo : Option Nat) (k2 : Int32) (w : Int64) (h2 : Int32) (p2 s2 d2 v2 : Nat) (wh : Int32) : Prop :=
  (k1 = 1 ∧ k2 = 1 ∧ fo = none ∧ pr = p2 ∧ ∃ r c b p n : Nat, r < 128 ∧ b < 128 ∧ p < 4 ∧ c ≤ 50 * n ∧ n ≤ 6 ∧ v = rl_v r c b p ∧ w = rl_w r c b p ∧ ro = nI r ∧ ho = nI n ∧ h2 = nI n) ∨
  (k1 = 2 ∧ k2 = 2 ∧ fo = none ∧ ∃ r : Nat, r < 128 ∧ ro = nI r ∧ w = Int64.ofNat r) ∨
  (k1 = 3 ∧ k2 = 3 ∧ ∃ f : Nat, f < nf ∧ fo = some f ∧ fs f = s2 ∧ fd f = d2 ∧ fv f = v2 ∧ fw f = wh ∧ s2 < 8 ∧ d2 < 10 ∧ 1 ≤ v2 ∧ v2 < 3)
def rl_m (nf : Nat) (N : bn_S) (i : Nat) (M : bn_S) (j : Nat) : Prop := rl_mm nf (N.2.1 10) (N.2.1 11) (N.2.1 12) (N.1 15) (N.1 12 i) (N.2.2.1 2 i) (N.1 13 i) (N.1 14 i) (N.2.1 5 i) (N.2.2.2 5 i) (M.1 14 j) (M.2.2.1 15 j) (M.1 16 j) (M.2.1 17 j) (M.2.1 18 j) (M.2.1 19 j) (M.2.1 20 j) (M.1 21 j)
def rl_b (ro co ho : Int32) (w : Int64) (h' : Int32) : Prop := ∃ r c b p n : Nat, r < 128 ∧ b < 128 ∧ p < 4 ∧ c ≤ 50 * n ∧ n ≤ 6 ∧ ro = nI r ∧ co = nI c ∧ ho = nI n ∧ w = rl_w r c b p ∧ h' = nI n
def rl_o (o : Option Nat) (j : Int32) : Prop := (o = none ∧ j = -1) ∨ ∃ y : Nat, y < 20 ∧ o = some y ∧ j = nI y
def RR (nf x0 : Nat) (N0 M0 N M : bn_S) : Prop := (∀ x : Nat, x < 20 → N.1 9 x = M.1 5 x) ∧
  (∀ x : Nat, x < 20 → N.1 10 x = M.1 6 x) ∧
  (∀ x : Nat, x < 20 → N.1 11 x = M.1 9 x) ∧
  (∀ x : Nat, x < 20 → N.1 5 x = M.1 2 x) ∧
  (∀ x : Nat, x < 20 → N.1 6 x = M.1 3 x) ∧
  (∀ x : Nat, x < 20 → N.2.1 3 x = M.2.1 7 x) ∧
  (∀ x : Nat, x < 20 → M.2.1 7 x < 2) ∧
  (∀ x : Nat, x < 20 → N.2.1 4 x = M.2.1 8 x) ∧
  (∀ x : Nat, x < 20 → ∃ c : Nat, c ≤ 50 ∧ M.1 2 x = nI c) ∧
  (∀ x : Nat, x < 20 → M.1 6 x = 0 ∨ M.1 6 x = 1 ∨ M.1 6 x = 2) ∧
  (∀ x : Nat, x < 20 → M.1 6 x = 2 → ¬ M.2.1 4 x = 0) ∧
  (∀ x : Nat, x < 20 → M.1 5 x = 1 ∨ M.1 5 x = 3 → 1 ≤ M.2.1 4 x ∧ M.2.1 4 x < 100) ∧
  (∀ x : Nat, x < 20 → M.1 5 x = 2 → ¬ M.2.1 4 x = 0) ∧
  (∀ x : Nat, x < 20 → M.1 5 x = 2 → M.2.1 4 x < 100 → ¬ M.1 6 x = 2 → ∃ w : Nat, 1 ≤ w ∧ w ≤ 4 ∧ M.1 9 x = nI w) ∧
  (∀ x : Nat, x < 20 → rl_inf (N.2.1 2 x) (N.2.2.1 1 x) (N.1 7 x) (N.1 8 x) (M.2.2.1 10 x) (M.1 11 x) (M.1 12 x)) ∧
  (∀ x : Nat, x < 20 → N.2.2.2 2 x = rl_p (M.2.1 4 x)) ∧
  (∀ x : Nat, x < 20 → N.2.2.2 3 x = rl_s (M.2.1 4 x)) ∧
  (∀ x : Nat, x < 20 → M.2.1 4 x ≤ 20 ∨ 100 ≤ M.2.1 4 x ∧ M.2.1 4 x < 108) ∧
  (∀ x : Nat, x < 20 → 1 ≤ M.2.1 4 x → M.2.1 4 x < 100 → ¬ (M.2.1 4 x - 1) / 4 = x / 4) ∧
  (∀ x : Nat, x < 20 → 100 ≤ M.2.1 4 x → ¬ M.1 27 (M.2.1 4 x - 100) < 0) ∧
  (∀ x : Nat, x < 20 → N.2.1 7 x = M.2.1 13 x) ∧
  (∀ x : Nat, x < 20 → M.2.1 13 x ≤ 12) ∧
  (∀ x : Nat, x < 20 → N.2.1 6 x < 12) ∧
  (∀ x : Nat, x < 20 → ∀ k : Nat, k < M.2.1 13 x → rl_m nf N (12 * x + (N.2.1 6 x + k) % 12) M (12 * x + k)) ∧
  (∀ b : Nat, b < 5 → ∃ p : Nat, p ≤ 15 ∧ M.1 1 b = nI p ∧ N.1 1 b = nI (8 * p + b)) ∧
  (∀ b : Nat, b < 5 → rl_b (N.1 2 b) (N.1 3 b) (N.1 4 b) (M.2.2.1 22 b) (M.1 23 b)) ∧
  (∀ b : Nat, b < 5 → rl_o (N.2.2.2 1 b) (M.1 24 b)) ∧
  (∀ b : Nat, b < 5 → ∀ i : Nat, i < 16 → N.2.1 (b + 20) i = M.2.1 26 (16 * b + i)) ∧
  (∀ b : Nat, b < 5 → ∀ i : Nat, i < 16 → M.2.1 26 (16 * b + i) < 4) ∧
  (∀ b : Nat, b < 5 → ∀ i : Nat, i < 16 → ∃ l : Nat, l ≤ 12 ∧ N.1 (b + 20) i = nI l ∧ M.1 25 (16 * b + i) = nI l) ∧
  (∀ t : Nat, t < 8 → N.2.1 9 t = M.2.1 29 t) ∧
  (∀ t : Nat, t < 8 → M.2.1 29 t ≤ 40) ∧
  (∀ t : Nat, t < 8 → ∀ k : Nat, k < 40 → N.2.2.1 (t + 20) k = M.2.2.1 30 (40 * t + k)) ∧
  (N.2.2.2 4 = N0.2.2.2 4) ∧
  (N.2.1 8 = N0.2.1 8) ∧
  (N.2.1 1 = N0.2.1 1) ∧
  (N.2.1 10 = N0.2.1 10) ∧
  (N.2.1 11 = N0.2.1 11) ∧
  (N.2.1 12 = N0.2.1 12) ∧
  (N.1 15 = N0.1 15) ∧
  (M.1 27 = M0.1 27) ∧
  (M.2.1 28 = M0.2.1 28) ∧
  (M.1 41 = M0.1 41) ∧
  (M.1 42 = M0.1 42) ∧
  (M.1 14 240 = M0.1 14 240) ∧
  (M.2.2.1 15 240 = M0.2.2.1 15 240) ∧
  (M.1 16 240 = M0.1 16 240) ∧
  (M.2.1 17 240 = M0.2.1 17 240) ∧
  (M.2.1 18 240 = M0.2.1 18 240) ∧
  (M.2.1 19 240 = M0.2.1 19 240) ∧
  (M.2.1 20 240 = M0.2.1 20 240) ∧
  (M.1 21 240 = M0.1 21 240) ∧
  (∀ i : Nat, i / 12 = x0 → N.1 12 i = N0.1 12 i ∧ N.2.1 5 i = N0.2.1 5 i)
theorem RR.role {nf x0 : Nat} {N0 M0 N M : bn_S} (h : RR nf x0 N0 M0 N M) : ∀ x : Nat, x < 20 → N.1 9 x = M.1 5 x := h.1
theorem RR.stat {nf x0 : Nat} {N0 M0 N M : bn_S} (h : RR nf x0 N0 M0 N M) : ∀ x : Nat, x < 20 → N.1 10 x = M.1 6 x := h.2.1
theorem RR.wait {nf x0 : Nat} {N0 M0 N M : bn_S} (h : RR nf x0 N0 M0 N M) : ∀ x : Nat, x < 20 → N.1 11 x = M.1 9 x := h.2.2.1
theorem RR.cost {nf x0 : Nat} {N0 M0 N M : bn_S} (h : RR nf x0 N0 M0 N M) : ∀ x : Nat, x < 20 → N.1 5 x = M.1 2 x := h.2.2.2.1
theorem RR.vlan {nf x0 : Nat} {N0 M0 N M : bn_S} (h : RR nf x0 N0 M0 N M) : ∀ x : Nat, x < 20 → N.1 6 x = M.1 3 x := h.2.2.2.2.1
theorem RR.prop {nf x0 : Nat} {N0 M0 N M : bn_S} (h : RR nf x0 N0 M0 N M) : ∀ x : Nat, x < 20 → N.2.1 3 x = M.2.1 7 x := h.2.2.2.2.2.1
theorem RR.prb {nf x0 : Nat} {N0 M0 N M : bn_S} (h : RR nf x0 N0 M0 N M) : ∀ x : Nat, x < 20 → M.2.1 7 x < 2 := h.2.2.2.2.2.2.1
theorem RR.agr {nf x0 : Nat} {N0 M0 N M : bn_S} (h : RR nf x0 N0 M0 N M) : ∀ x : Nat, x < 20 → N.2.1 4 x = M.2.1 8 x := h.2.2.2.2.2.2.2.1
theorem RR.cst {nf x0 : Nat} {N0 M0 N M : bn_S} (h : RR nf x0 N0 M0 N M) : ∀ x : Nat, x < 20 → ∃ c : Nat, c ≤ 50 ∧ M.1 2 x = nI c := h.2.2.2.2.2.2.2.2.1
theorem RR.st3 {nf x0 : Nat} {N0 M0 N M : bn_S} (h : RR nf x0 N0 M0 N M) : ∀ x : Nat, x < 20 → M.1 6 x = 0 ∨ M.1 6 x = 1 ∨ M.1 6 x = 2 := h.2.2.2.2.2.2.2.2.2.1
theorem RR.PP {nf x0 : Nat} {N0 M0 N M : bn_S} (h : RR nf x0 N0 M0 N M) : ∀ x : Nat, x < 20 → M.1 6 x = 2 → ¬ M.2.1 4 x = 0 := h.2.2.2.2.2.2.2.2.2.2.1
theorem RR.GG {nf x0 : Nat} {N0 M0 N M : bn_S} (h : RR nf x0 N0 M0 N M) : ∀ x : Nat, x < 20 → M.1 5 x = 1 ∨ M.1 5 x = 3 → 1 ≤ M.2.1 4 x ∧ M.2.1 4 x < 100 := h.2.2.2.2.2.2.2.2.2.2.2.1
theorem RR.G2 {nf x0 : Nat} {N0 M0 N M : bn_S} (h : RR nf x0 N0 M0 N M) : ∀ x : Nat, x < 20 → M.1 5 x = 2 → ¬ M.2.1 4 x = 0 := h.2.2.2.2.2.2.2.2.2.2.2.2.1
theorem RR.WW {nf x0 : Nat} {N0 M0 N M : bn_S} (h : RR nf x0 N0 M0 N M) : ∀ x : Nat, x < 20 → M.1 5 x = 2 → M.2.1 4 x < 100 → ¬ M.1 6 x = 2 → ∃ w : Nat, 1 ≤ w ∧ w ≤ 4 ∧ M.1 9 x = nI w := h.2.2.2.2.2.2.2.2.2.2.2.2.2.1
theorem RR.info {nf x0 : Nat} {N0 M0 N M : bn_S} (h : RR nf x0 N0 M0 N M) : ∀ x : Nat, x < 20 → rl_inf (N.2.1 2 x) (N.2.2.1 1 x) (N.1 7 x) (N.1 8 x) (M.2.2.1 10 x) (M.1 11 x) (M.1 12 x) := h.2.2.2.2.2.2.2.2.2.2.2.2.2.2.1
theorem RR.peer {nf x0 : Nat} {N0 M0 N M : bn_S} (h : RR nf x0 N0 M0 N M) : ∀ x : Nat, x < 20 → N.2.2.2 2 x = rl_p (M.2.1 4 x) := h.2.2.2.2.2.2.2.2.2.2.2.2.2.2.2.1
theorem RR.stn {nf x0 : Nat} {N0 M0 N M : bn_S} (h : RR nf x0 N0 M0 N M) : ∀ x : Nat, x < 20 → N.2.2.2 3 x = rl_s (M.2.1 4 x) := h.2.2.2.2.2.2.2.2.2.2.2.2.2.2.2.2.1
theorem RR.jb {nf x0 : Nat} {N0 M0 N M : bn_S} (h : RR nf x0 N0 M0 N M) : ∀ x : Nat, x < 20 → M.2.1 4 x ≤ 20 ∨ 100 ≤ M.2.1 4 x ∧ M.2.1 4 x < 108 := h.2.2.2.2.2.2.2.2.2.2.2.2.2.2.2.2.2.1
theorem RR.diff {nf x0 : Nat} {N0 M0 N M : bn_S} (h : RR nf x0 N0 M0 N M) : ∀ x : Nat, x < 20 → 1 ≤ M.2.1 4 x → M.2.1 4 x < 100 → ¬ (M.2.1 4 x - 1) / 4 = x / 4 := h.2.2.2.2.2.2.2.2.2.2.2.2.2.2.2.2.2.2.1
theorem RR.stp {nf x0 : Nat} {N0 M0 N M : bn_S} (h : RR nf x0 N0 M0 N M) : ∀ x : Nat, x < 20 → 100 ≤ M.2.1 4 x → ¬ M.1 27 (M.2.1 4 x - 100) < 0 := h.2.2.2.2.2.2.2.2.2.2.2.2.2.2.2.2.2.2.2.1
theorem RR.cnt {nf x0 : Nat} {N0 M0 N M : bn_S} (h : RR nf x0 N0 M0 N M) : ∀ x : Nat, x < 20 → N.2.1 7 x = M.2.1 13 x := h.2.2.2.2.2.2.2.2.2.2.2.2.2.2.2.2.2.2.2.2.1
theorem RR.cnb {nf x0 : Nat} {N0 M0 N M : bn_S} (h : RR nf x0 N0 M0 N M) : ∀ x : Nat, x < 20 → M.2.1 13 x ≤ 12 := h.2.2.2.2.2.2.2.2.2.2.2.2.2.2.2.2.2.2.2.2.2.1
theorem RR.fst {nf x0 : Nat} {N0 M0 N M : bn_S} (h : RR nf x0 N0 M0 N M) : ∀ x : Nat, x < 20 → N.2.1 6 x < 12 := h.2.2.2.2.2.2.2.2.2.2.2.2.2.2.2.2.2.2.2.2.2.2.1
theorem RR.msg {nf x0 : Nat} {N0 M0 N M : bn_S} (h : RR nf x0 N0 M0 N M) : ∀ x : Nat, x < 20 → ∀ k : Nat, k < M.2.1 13 x → rl_m nf N (12 * x + (N.2.1 6 x + k) % 12) M (12 * x + k) := h.2.2.2.2.2.2.2.2.2.2.2.2.2.2.2.2.2.2.2.2.2.2.2.1
theorem RR.bid {nf x0 : Nat} {N0 M0 N M : bn_S} (h : RR nf x0 N0 M0 N M) : ∀ b : Nat, b < 5 → ∃ p : Nat, p ≤ 15 ∧ M.1 1 b = nI p ∧ N.1 1 b = nI (8 * p + b) := h.2.2.2.2.2.2.2.2.2.2.2.2.2.2.2.2.2.2.2.2.2.2.2.2.1
theorem RR.best {nf x0 : Nat} {N0 M0 N M : bn_S} (h : RR nf x0 N0 M0 N M) : ∀ b : Nat, b < 5 → rl_b (N.1 2 b) (N.1 3 b) (N.1 4 b) (M.2.2.1 22 b) (M.1 23 b) := h.2.2.2.2.2.2.2.2.2.2.2.2.2.2.2.2.2.2.2.2.2.2.2.2.2.1
theorem RR.rp {nf x0 : Nat} {N0 M0 N M : bn_S} (h : RR nf x0 N0 M0 N M) : ∀ b : Nat, b < 5 → rl_o (N.2.2.2 1 b) (M.1 24 b) := h.2.2.2.2.2.2.2.2.2.2.2.2.2.2.2.2.2.2.2.2.2.2.2.2.2.2.1
theorem RR.plc {nf x0 : Nat} {N0 M0 N M : bn_S} (h : RR nf x0 N0 M0 N M) : ∀ b : Nat, b < 5 → ∀ i : Nat, i < 16 → N.2.1 (b + 20) i = M.2.1 26 (16 * b + i) := h.2.2.2.2.2.2.2.2.2.2.2.2.2.2.2.2.2.2.2.2.2.2.2.2.2.2.2.1
theorem RR.plb {nf x0 : Nat} {N0 M0 N M : bn_S} (h : RR nf x0 N0 M0 N M) : ∀ b : Nat, b < 5 → ∀ i : Nat, i < 16 → M.2.1 26 (16 * b + i) < 4 := h.2.2.2.2.2.2.2.2.2.2.2.2.2.2.2.2.2.2.2.2.2.2.2.2.2.2.2.2.1
theorem RR.liv {nf x0 : Nat} {N0 M0 N M : bn_S} (h : RR nf x0 N0 M0 N M) : ∀ b : Nat, b < 5 → ∀ i : Nat, i < 16 → ∃ l : Nat, l ≤ 12 ∧ N.1 (b + 20) i = nI l ∧ M.1 25 (16 * b + i) = nI l := h.2.2.2.2.2.2.2.2.2.2.2.2.2.2.2.2.2.2.2.2.2.2.2.2.2.2.2.2.2.1
theorem RR.got {nf x0 : Nat} {N0 M0 N M : bn_S} (h : RR nf x0 N0 M0 N M) : ∀ t : Nat, t < 8 → N.2.1 9 t = M.2.1 29 t := h.2.2.2.2.2.2.2.2.2.2.2.2.2.2.2.2.2.2.2.2.2.2.2.2.2.2.2.2.2.2.1
theorem RR.gotb {nf x0 : Nat} {N0 M0 N M : bn_S} (h : RR nf x0 N0 M0 N M) : ∀ t : Nat, t < 8 → M.2.1 29 t ≤ 40 := h.2.2.2.2.2.2.2.2.2.2.2.2.2.2.2.2.2.2.2.2.2.2.2.2.2.2.2.2.2.2.2.1
theorem RR.inb {nf x0 : Nat} {N0 M0 N M : bn_S} (h : RR nf x0 N0 M0 N M) : ∀ t : Nat, t < 8 → ∀ k : Nat, k < 40 → N.2.2.1 (t + 20) k = M.2.2.1 30 (40 * t + k) := h.2.2.2.2.2.2.2.2.2.2.2.2.2.2.2.2.2.2.2.2.2.2.2.2.2.2.2.2.2.2.2.2.1
theorem RR.kpl {nf x0 : Nat} {N0 M0 N M : bn_S} (h : RR nf x0 N0 M0 N M) : N.2.2.2 4 = N0.2.2.2 4 := h.2.2.2.2.2.2.2.2.2.2.2.2.2.2.2.2.2.2.2.2.2.2.2.2.2.2.2.2.2.2.2.2.2.1
theorem RR.ksv {nf x0 : Nat} {N0 M0 N M : bn_S} (h : RR nf x0 N0 M0 N M) : N.2.1 8 = N0.2.1 8 := h.2.2.2.2.2.2.2.2.2.2.2.2.2.2.2.2.2.2.2.2.2.2.2.2.2.2.2.2.2.2.2.2.2.2.1
theorem RR.ktl {nf x0 : Nat} {N0 M0 N M : bn_S} (h : RR nf x0 N0 M0 N M) : N.2.1 1 = N0.2.1 1 := h.2.2.2.2.2.2.2.2.2.2.2.2.2.2.2.2.2.2.2.2.2.2.2.2.2.2.2.2.2.2.2.2.2.2.2.1
theorem RR.kfs {nf x0 : Nat} {N0 M0 N M : bn_S} (h : RR nf x0 N0 M0 N M) : N.2.1 10 = N0.2.1 10 := h.2.2.2.2.2.2.2.2.2.2.2.2.2.2.2.2.2.2.2.2.2.2.2.2.2.2.2.2.2.2.2.2.2.2.2.2.1
theorem RR.kfd {nf x0 : Nat} {N0 M0 N M : bn_S} (h : RR nf x0 N0 M0 N M) : N.2.1 11 = N0.2.1 11 := h.2.2.2.2.2.2.2.2.2.2.2.2.2.2.2.2.2.2.2.2.2.2.2.2.2.2.2.2.2.2.2.2.2.2.2.2.2.1
theorem RR.kfv {nf x0 : Nat} {N0 M0 N M : bn_S} (h : RR nf x0 N0 M0 N M) : N.2.1 12 = N0.2.1 12 := h.2.2.2.2.2.2.2.2.2.2.2.2.2.2.2.2.2.2.2.2.2.2.2.2.2.2.2.2.2.2.2.2.2.2.2.2.2.2.1
theorem RR.kfw {nf x0 : Nat} {N0 M0 N M : bn_S} (h : RR nf x0 N0 M0 N M) : N.1 15 = N0.1 15 := h.2.2.2.2.2.2.2.2.2.2.2.2.2.2.2.2.2.2.2.2.2.2.2.2.2.2.2.2.2.2.2.2.2.2.2.2.2.2.2.1
theorem RR.kat {nf x0 : Nat} {N0 M0 N M : bn_S} (h : RR nf x0 N0 M0 N M) : M.1 27 = M0.1 27 := h.2.2.2.2.2.2.2.2.2.2.2.2.2.2.2.2.2.2.2.2.2.2.2.2.2.2.2.2.2.2.2.2.2.2.2.2.2.2.2.2.1
theorem RR.kin {nf x0 : Nat} {N0 M0 N M : bn_S} (h : RR nf x0 N0 M0 N M) : M.2.1 28 = M0.2.1 28 := h.2.2.2.2.2.2.2.2.2.2.2.2.2.2.2.2.2.2.2.2.2.2.2.2.2.2.2.2.2.2.2.2.2.2.2.2.2.2.2.2.2.1
theorem RR.kth {nf x0 : Nat} {N0 M0 N M : bn_S} (h : RR nf x0 N0 M0 N M) : M.1 41 = M0.1 41 := h.2.2.2.2.2.2.2.2.2.2.2.2.2.2.2.2.2.2.2.2.2.2.2.2.2.2.2.2.2.2.2.2.2.2.2.2.2.2.2.2.2.2.1
theorem RR.ktk {nf x0 : Nat} {N0 M0 N M : bn_S} (h : RR nf x0 N0 M0 N M) : M.1 42 = M0.1 42 := h.2.2.2.2.2.2.2.2.2.2.2.2.2.2.2.2.2.2.2.2.2.2.2.2.2.2.2.2.2.2.2.2.2.2.2.2.2.2.2.2.2.2.2.1
theorem RR.h14 {nf x0 : Nat} {N0 M0 N M : bn_S} (h : RR nf x0 N0 M0 N M) : M.1 14 240 = M0.1 14 240 := h.2.2.2.2.2.2.2.2.2.2.2.2.2.2.2.2.2.2.2.2.2.2.2.2.2.2.2.2.2.2.2.2.2.2.2.2.2.2.2.2.2.2.2.2.1
theorem RR.h15 {nf x0 : Nat} {N0 M0 N M : bn_S} (h : RR nf x0 N0 M0 N M) : M.2.2.1 15 240 = M0.2.2.1 15 240 := h.2.2.2.2.2.2.2.2.2.2.2.2.2.2.2.2.2.2.2.2.2.2.2.2.2.2.2.2.2.2.2.2.2.2.2.2.2.2.2.2.2.2.2.2.2.1
theorem RR.h16 {nf x0 : Nat} {N0 M0 N M : bn_S} (h : RR nf x0 N0 M0 N M) : M.1 16 240 = M0.1 16 240 := h.2.2.2.2.2.2.2.2.2.2.2.2.2.2.2.2.2.2.2.2.2.2.2.2.2.2.2.2.2.2.2.2.2.2.2.2.2.2.2.2.2.2.2.2.2.2.1
theorem RR.h17 {nf x0 : Nat} {N0 M0 N M : bn_S} (h : RR nf x0 N0 M0 N M) : M.2.1 17 240 = M0.2.1 17 240 := h.2.2.2.2.2.2.2.2.2.2.2.2.2.2.2.2.2.2.2.2.2.2.2.2.2.2.2.2.2.2.2.2.2.2.2.2.2.2.2.2.2.2.2.2.2.2.2.1
theorem RR.h18 {nf x0 : Nat} {N0 M0 N M : bn_S} (h : RR nf x0 N0 M0 N M) : M.2.1 18 240 = M0.2.1 18 240 := h.2.2.2.2.2.2.2.2.2.2.2.2.2.2.2.2.2.2.2.2.2.2.2.2.2.2.2.2.2.2.2.2.2.2.2.2.2.2.2.2.2.2.2.2.2.2.2.2.1
theorem RR.h19 {nf x0 : Nat} {N0 M0 N M : bn_S} (h : RR nf x0 N0 M0 N M) : M.2.1 19 240 = M0.2.1 19 240 := h.2.2.2.2.2.2.2.2.2.2.2.2.2.2.2.2.2.2.2.2.2.2.2.2.2.2.2.2.2.2.2.2.2.2.2.2.2.2.2.2.2.2.2.2.2.2.2.2.2.1
theorem RR.h20 {nf x0 : Nat} {N0 M0 N M : bn_S} (h : RR nf x0 N0 M0 N M) : M.2.1 20 240 = M0.2.1 20 240 := h.2.2.2.2.2.2.2.2.2.2.2.2.2.2.2.2.2.2.2.2.2.2.2.2.2.2.2.2.2.2.2.2.2.2.2.2.2.2.2.2.2.2.2.2.2.2.2.2.2.2.1
theorem RR.h21 {nf x0 : Nat} {N0 M0 N M : bn_S} (h : RR nf x0 N0 M0 N M) : M.1 21 240 = M0.1 21 240 := h.2.2.2.2.2.2.2.2.2.2.2.2.2.2.2.2.2.2.2.2.2.2.2.2.2.2.2.2.2.2.2.2.2.2.2.2.2.2.2.2.2.2.2.2.2.2.2.2.2.2.2.1
theorem RR.khN {nf x0 : Nat} {N0 M0 N M : bn_S} (h : RR nf x0 N0 M0 N M) : ∀ i : Nat, i / 12 = x0 → N.1 12 i = N0.1 12 i ∧ N.2.1 5 i = N0.2.1 5 i := h.2.2.2.2.2.2.2.2.2.2.2.2.2.2.2.2.2.2.2.2.2.2.2.2.2.2.2.2.2.2.2.2.2.2.2.2.2.2.2.2.2.2.2.2.2.2.2.2.2.2.2.2
