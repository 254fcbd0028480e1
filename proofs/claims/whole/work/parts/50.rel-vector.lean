/-! relation of the two states (50.rel-vector): written by wip/whole/rel -/
theorem rl_i64 {n : Nat} (h : n < 2 ^ 63) : (Int64.ofNat n).toInt = (n : Int) := by
  rw [Int64.toInt_ofNat_of_lt (by simpa using h)]
theorem rl_bv (n : Nat) : (Int64.ofNat n).toBitVec = BitVec.ofNat 64 n := by
  simp [Int64.toBitVec_ofNat']
theorem rl_bv32 (n : Nat) : (nI n).toBitVec = BitVec.ofNat 32 n := by
  simp [nI, Int32.toBitVec_ofNat']
theorem rl_le {a b : Nat} (ha : a < 2 ^ 63) (hb : b < 2 ^ 63) : (Int64.ofNat a ≤ Int64.ofNat b) ↔ a ≤ b := by
  rw [Int64.le_iff_toInt_le, rl_i64 ha, rl_i64 hb]; omega
theorem rl_64 {a : Nat} (ha : a < 2 ^ 31) : Int32.toInt64 (nI a) = Int64.ofNat a := by
  apply Int64.toInt_inj.mp
  rw [Int32.toInt_toInt64, nI_toInt ha, rl_i64 (by omega)]
theorem rl_32 (a : Nat) : Int64.toInt32 (Int64.ofNat a) = nI a := by
  unfold nI
  simp
theorem rl_shr {n : Nat} (h : n < 2 ^ 63) (k : Nat) (hk : k < 64) (c : Int64) (hc : c.toBitVec = BitVec.ofNat 64 k) : (Int64.ofNat n) >>> c = Int64.ofNat (n / 2 ^ k) := by
  apply Int64.toBitVec_inj.mp
  rw [Int64.toBitVec_shiftRight, rl_bv, rl_bv, hc]
  have h1 : (BitVec.ofNat 64 k).smod 64 = BitVec.ofNat 64 k := by
    apply BitVec.eq_of_toInt_eq
    rw [BitVec.toInt_smod]
    have : (BitVec.ofNat 64 k).toInt = (k : Int) := by
      rw [BitVec.toInt_eq_toNat_of_lt (by rw [BitVec.toNat_ofNat]; omega), BitVec.toNat_ofNat]
      omega
    rw [this]
    have h64 : (64 : BitVec 64).toInt = 64 := by decide
    rw [h64]
    rw [Int.fmod_eq_emod_of_nonneg _ (by omega)]
    omega
  rw [h1]
  have hm : (BitVec.ofNat 64 n).msb = false := by
    rw [BitVec.msb_eq_decide]
    simp
    omega
  unfold BitVec.sshiftRight'
  rw [BitVec.sshiftRight_eq_of_msb_false hm]
  apply BitVec.eq_of_toNat_eq
  simp [Nat.shiftRight_eq_div_pow]
  rw [Nat.mod_eq_of_lt (by omega : k < 18446744073709551616), Nat.mod_eq_of_lt (by omega : n < 18446744073709551616), Nat.mod_eq_of_lt]
  exact Nat.lt_of_le_of_lt (Nat.div_le_self _ _) (by omega)
theorem rl_shl {n : Nat} (k : Nat) (hk : k < 64) (h : n * 2 ^ k < 2 ^ 63) (c : Int64) (hc : c.toBitVec = BitVec.ofNat 64 k) : (Int64.ofNat n) <<< c = Int64.ofNat (n * 2 ^ k) := by
  apply Int64.toBitVec_inj.mp
  rw [Int64.toBitVec_shiftLeft, rl_bv, rl_bv, hc]
  have h1 : (BitVec.ofNat 64 k).smod 64 = BitVec.ofNat 64 k := by
    apply BitVec.eq_of_toInt_eq
    rw [BitVec.toInt_smod]
    have : (BitVec.ofNat 64 k).toInt = (k : Int) := by
      rw [BitVec.toInt_eq_toNat_of_lt (by rw [BitVec.toNat_ofNat]; omega), BitVec.toNat_ofNat]
      omega
    rw [this]
    have h64 : (64 : BitVec 64).toInt = 64 := by decide
    rw [h64]
    rw [Int.fmod_eq_emod_of_nonneg _ (by omega)]
    omega
  rw [h1]
  apply BitVec.eq_of_toNat_eq
  simp [Nat.shiftLeft_eq]
  rw [Nat.mod_eq_of_lt (by omega : k < 18446744073709551616)]
theorem rl_or {a b : Nat} : Int64.ofNat a ||| Int64.ofNat b = Int64.ofNat (a ||| b) := by
  apply Int64.toBitVec_inj.mp
  rw [Int64.toBitVec_or, rl_bv, rl_bv, rl_bv]
  apply BitVec.eq_of_toNat_eq
  simp
theorem rl_and32 {a k : Nat} : nI a &&& nI (2 ^ k - 1) = nI (a % 2 ^ k) := by
  apply Int32.toBitVec_inj.mp
  rw [Int32.toBitVec_and, rl_bv32, rl_bv32, rl_bv32]
  apply BitVec.eq_of_toNat_eq
  rw [BitVec.toNat_and, BitVec.toNat_ofNat, BitVec.toNat_ofNat, BitVec.toNat_ofNat, ← Nat.and_mod_two_pow, Nat.and_two_pow_sub_one_eq_mod]

theorem rl_and64 {a k : Nat} : Int64.ofNat a &&& Int64.ofNat (2 ^ k - 1) = Int64.ofNat (a % 2 ^ k) := by
  apply Int64.toBitVec_inj.mp
  rw [Int64.toBitVec_and, rl_bv, rl_bv, rl_bv]
  apply BitVec.eq_of_toNat_eq
  rw [BitVec.toNat_and, BitVec.toNat_ofNat, BitVec.toNat_ofNat, BitVec.toNat_ofNat, ← Nat.and_mod_two_pow, Nat.and_two_pow_sub_one_eq_mod]
theorem rl_add64 {a b : Nat} : Int64.ofNat a + Int64.ofNat b = Int64.ofNat (a + b) := by
  rw [Int64.ofNat_add]
theorem rl_or_add {a b k : Nat} (h : b < 2 ^ k) : a * 2 ^ k ||| b = a * 2 ^ k + b := by
  rw [Nat.mul_comm, Nat.two_pow_add_eq_or_of_lt h]
theorem rl_shr32 {n : Nat} (h : n < 2 ^ 31) : (nI n) >>> (8 &&& 31) = nI (n / 256) := by
  apply Int32.toBitVec_inj.mp
  have h8 : ((8 : Int32) &&& 31) = 8 := by decide
  rw [h8, Int32.toBitVec_shiftRight, rl_bv32, rl_bv32]
  have h1 : ((8 : Int32).toBitVec).smod 32 = BitVec.ofNat 32 8 := by decide
  rw [h1]
  have hm : (BitVec.ofNat 32 n).msb = false := by
    rw [BitVec.msb_eq_decide]
    simp
    omega
  unfold BitVec.sshiftRight'
  rw [BitVec.sshiftRight_eq_of_msb_false hm]
  apply BitVec.eq_of_toNat_eq
  simp [Nat.shiftRight_eq_div_pow]
  rw [Nat.mod_eq_of_lt (by omega : n < 4294967296), Nat.mod_eq_of_lt (by omega)]
/-- the two packings of one vector -/
def rl_v (r c b p : Nat) : Int64 := Int64.ofNat (r * 4294967296 + c * 65536 + b * 256 + p)
def rl_w (r c b p : Nat) : Int64 := Int64.ofNat (r * 1099511627776 + c * 16777216 + b * 256 + p)
theorem rl_v_root (N : bn_S) {r c b p : Nat} (hr : r < 128) (hc : c < 65536) (hb : b < 256) (hp : p < 256) : r_Ve_rootOf N (rl_v r c b p) = nI r := by
  unfold r_Ve_rootOf rl_v
  rw [rl_shr (by omega) 32 (by omega) _ (by decide), rl_32]
  congr 1
  omega
theorem rl_v_cost (N : bn_S) {r c b p : Nat} (hr : r < 128) (hc : c < 65536) (hb : b < 256) (hp : p < 256) : r_Ve_costOf N (rl_v r c b p) = nI c := by
  unfold r_Ve_costOf rl_v
  rw [rl_shr (by omega) 16 (by omega) _ (by decide), rl_32]
  rw [show (65535 : Int32) = nI (2 ^ 16 - 1) from by decide, rl_and32]
  congr 1
  omega
theorem rl_v_bridge (N : bn_S) {r c b p : Nat} (hr : r < 128) (hc : c < 65536) (hb : b < 256) (hp : p < 256) : r_Ve_bridgeOf N (rl_v r c b p) = nI b := by
  unfold r_Ve_bridgeOf rl_v
  rw [rl_shr (by omega) 8 (by omega) _ (by decide), rl_32]
  rw [show (255 : Int32) = nI (2 ^ 8 - 1) from by decide, rl_and32]
  congr 1
  omega
theorem rl_v_port (N : bn_S) {r c b p : Nat} (hr : r < 128) (hc : c < 65536) (hb : b < 256) (hp : p < 256) : r_Ve_portOf N (rl_v r c b p) = nI p := by
  unfold r_Ve_portOf rl_v
  rw [rl_32]
  rw [show (255 : Int32) = nI (2 ^ 8 - 1) from by decide, rl_and32]
  congr 1
  omega
theorem rl_w_root (N : bn_S) {r c b p : Nat} (hr : r < 128) (hc : c < 65536) (hb : b < 256) (hp : p < 256) : r_Mo_rootOf N (rl_w r c b p) = nI r := by
  unfold r_Mo_rootOf rl_w
  rw [rl_shr (by omega) 40 (by omega) _ (by decide), rl_32]
  congr 1
  omega
theorem rl_w_cost (N : bn_S) {r c b p : Nat} (hr : r < 128) (hc : c < 65536) (hb : b < 256) (hp : p < 256) : r_Mo_costOf N (rl_w r c b p) = nI c := by
  unfold r_Mo_costOf rl_w
  rw [rl_shr (by omega) 24 (by omega) _ (by decide), rl_32]
  rw [show (65535 : Int32) = nI (2 ^ 16 - 1) from by decide, rl_and32]
  congr 1
  omega
theorem rl_w_bridge (N : bn_S) {r c b p : Nat} (hr : r < 128) (hc : c < 65536) (hb : b < 256) (hp : p < 256) : (r_Mo_teller N (rl_w r c b p)) >>> (8 &&& 31) = nI b := by
  unfold r_Mo_teller rl_w
  rw [rl_32]
  rw [show (16777215 : Int32) = nI (2 ^ 24 - 1) from by decide, rl_and32, rl_shr32 (by omega)]
  congr 1
  omega
theorem rl_w_port {r c b p : Nat} (hr : r < 128) (hc : c < 65536) (hb : b < 256) (hp : p < 256) : (rl_w r c b p) &&& (255 : Int64) = Int64.ofNat p := by
  unfold rl_w
  rw [show (255 : Int64) = Int64.ofNat (2 ^ 8 - 1) from by decide, rl_and64]
  congr 1
  omega
theorem rl_v_of (N : bn_S) {r c b p : Nat} (hr : r < 128) (hc : c < 65536) (hb : b < 256) (hp : p < 256) : r_Ve_of N (nI r) (nI c) (nI b) (nI p) = rl_v r c b p := by
  unfold r_Ve_of rl_v
  rw [rl_64 (by omega), rl_64 (by omega), rl_64 (by omega), rl_64 (by omega), rl_shl 32 (by omega) (by omega) _ (by decide), rl_shl 16 (by omega) (by omega) _ (by decide), rl_shl 8 (by omega) (by omega) _ (by decide), rl_or, rl_or, rl_or]
  congr 1
  rw [rl_or_add (a := r) (b := c * 2 ^ 16) (k := 32) (by omega)]
  rw [show r * 2 ^ 32 + c * 2 ^ 16 = (r * 2 ^ 16 + c) * 2 ^ 16 from by omega, rl_or_add (by omega)]
  rw [show (r * 2 ^ 16 + c) * 2 ^ 16 + b * 2 ^ 8 = (r * 2 ^ 24 + c * 2 ^ 8 + b) * 2 ^ 8 from by omega, rl_or_add (by omega)]
theorem rl_w_of (N : bn_S) {r c b p : Nat} (hr : r < 128) (hc : c < 65536) (hb : b < 256) (hp : p < 256) : r_Mo_vector N (Int64.ofNat r) (Int64.ofNat c) (Int64.ofNat b) (Int64.ofNat p) = rl_w r c b p := by
  unfold r_Mo_vector rl_w
  rw [rl_shl 40 (by omega) (by omega) _ (by decide), rl_shl 24 (by omega) (by omega) _ (by decide), rl_shl 8 (by omega) (by omega) _ (by decide), rl_or, rl_or, rl_or]
  congr 1
  rw [rl_or_add (a := r) (b := c * 2 ^ 24) (k := 40) (by omega)]
  rw [show r * 2 ^ 40 + c * 2 ^ 24 = (r * 2 ^ 16 + c) * 2 ^ 24 from by omega, rl_or_add (by omega)]
  rw [show (r * 2 ^ 16 + c) * 2 ^ 24 + b * 2 ^ 8 = (r * 2 ^ 32 + c * 2 ^ 16 + b) * 2 ^ 8 from by omega, rl_or_add (by omega)]
theorem rl_v_far (N : bn_S) {r c b p d : Nat} (hd : d ≤ 50) : r_Ve_farther N (rl_v r c b p) (nI d) = rl_v r (c + d) b p := by
  unfold r_Ve_farther rl_v
  rw [rl_64 (by omega), rl_shl 16 (by omega) (by omega) _ (by decide), rl_add64]
  exact congrArg Int64.ofNat (by omega)
theorem rl_w_far {r c b p d : Nat} (hd : d ≤ 50) : (rl_w r c b p) + ((Int32.toInt64 (nI d)) <<< (Int32.toInt64 24 &&& 63)) = rl_w r (c + d) b p := by
  unfold rl_w
  rw [rl_64 (by omega), rl_shl 24 (by omega) (by omega) _ (by decide), rl_add64]
  exact congrArg Int64.ofNat (by omega)
theorem rl_vw_le {r c b p r' c' b' p' : Nat} (hr : r < 128) (hc : c < 65536) (hb : b < 256) (hp : p < 256) (hr' : r' < 128) (hc' : c' < 65536) (hb' : b' < 256) (hp' : p' < 256) : rl_v r c b p ≤ rl_v r' c' b' p' ↔ rl_w r c b p ≤ rl_w r' c' b' p' := by
  unfold rl_v rl_w
  rw [rl_le (by omega) (by omega), rl_le (by omega) (by omega)]
  omega
theorem rl_nI {a b : Nat} (ha : a < 2 ^ 31) (hb : b < 2 ^ 31) : nI a = nI b ↔ a = b := by
  constructor
  · intro h
    have := congrArg Int32.toNatClampNeg h
    rwa [nI_clamp ha, nI_clamp hb] at this
  · intro h
    rw [h]
