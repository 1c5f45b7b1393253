/-! ===== the bytes of a number: unsigned and signed ===== -/
theorem sgn_nat (x : Int32) : x.toInt = if 2 * x.toBitVec.toNat < 2 ^ 32 then (x.toBitVec.toNat : Int) else (x.toBitVec.toNat : Int) - 2 ^ 32 := BitVec.toInt_eq_toNat_cond x.toBitVec
theorem shr_mod (v s : Int32) (k : Nat) (hk : k = 0 ∨ k = 8 ∨ k = 16 ∨ k = 24) (hs : (s.toBitVec.smod 32).toNat = k) : (v >>> s).toBitVec.toNat % 256 = v.toBitVec.toNat / 2 ^ k % 256 := by
  have h1 := pk_shr v s k hs
  rw [Int.shiftRight_eq_div_pow, sgn_nat (v >>> s), sgn_nat v] at h1
  have l1 : (v >>> s).toBitVec.toNat < 4294967296 := (v >>> s).toBitVec.isLt
  have l2 : v.toBitVec.toNat < 4294967296 := v.toBitVec.isLt
  generalize (v >>> s).toBitVec.toNat = a at h1 l1 ⊢
  generalize v.toBitVec.toNat = b at h1 l2 ⊢
  rcases hk with rfl | rfl | rfl | rfl
  all_goals
    simp only [show ((2 : Nat) ^ 0) = 1 from rfl, show ((2 : Nat) ^ 8) = 256 from rfl, show ((2 : Nat) ^ 16) = 65536 from rfl, show ((2 : Nat) ^ 24) = 16777216 from rfl, show ((2 : Nat) ^ 32) = 4294967296 from rfl] at h1 ⊢
    split at h1 <;> split at h1 <;> omega
theorem sh_8 : ∀ k, k < 4 → ((nI (8 * k) &&& 31 : Int32).toBitVec.smod 32).toNat = 8 * k ∧ (((nI (8 * k)).toUInt32 &&& Int32.toUInt32 31).toBitVec % 32).toNat = 8 * k := by decide
theorem tB_nat (v : Int32) (k : Nat) (hk : k < 4) : tB v (nI (8 * k)) = nI (v.toBitVec.toNat / 2 ^ (8 * k) % 256) := by
  unfold tB
  rw [pk_and _ 8 (by decide), pk_ushr v (nI (8 * k)) (8 * k) (sh_8 k hk).2]
theorem mB_nat (v : Int32) (k : Nat) (hk : k < 4) : mB v (nI (8 * k)) = nI (v.toBitVec.toNat / 2 ^ (8 * k) % 256) := by
  unfold mB
  rw [pk_and _ 8 (by decide), shr_mod v _ (8 * k) (by omega) (sh_8 k hk).1]
theorem tB_mB (v : Int32) (k : Nat) (hk : k < 4) : tB v (nI (8 * k)) = mB v (nI (8 * k)) := by rw [tB_nat v k hk, mB_nat v k hk]
/-- a byte as it is kept by the reference, looked at as the house keeps it -/
def yB (x : Int32) : Int32 := x &&& 255
theorem sB_t (v : Int32) (k : Nat) (hk : k < 4) : yB (vp_nar .byte (v >>> (nI (8 * k) &&& 31)).toInt8.toInt32) = tB v (nI (8 * k)) := by
  rw [pk_vb, tB_mB v k hk]
  show (v >>> (nI (8 * k) &&& 31)).toInt8.toInt32 &&& 255 = (v >>> (nI (8 * k) &&& 31)) &&& 255
  generalize v >>> (nI (8 * k) &&& 31) = x
  rw [pk_and _ 8 (by decide), pk_and x 8 (by decide)]
  congr 1
  have h1 : (x.toInt8.toInt32).toInt = x.toInt.bmod 256 := by rw [Int8.toInt_toInt32, Int32.toInt_toInt8]
  rw [sgn_nat (x.toInt8.toInt32), sgn_nat x] at h1
  have l1 : (x.toInt8.toInt32).toBitVec.toNat < 4294967296 := (x.toInt8.toInt32).toBitVec.isLt
  have l2 : x.toBitVec.toNat < 4294967296 := x.toBitVec.isLt
  generalize (x.toInt8.toInt32).toBitVec.toNat = a at h1 l1 ⊢
  generalize x.toBitVec.toNat = b at h1 l2 ⊢
  rw [Int.bmod_def] at h1
  simp only [show ((2 : Nat) ^ 8) = 256 from rfl, show ((2 : Nat) ^ 32) = 4294967296 from rfl] at h1 ⊢
  split at h1 <;> split at h1 <;> split at h1 <;> omega
theorem tIn_ct (v : Int32) : ∀ (k a : Nat), k ≤ 4 → tIn v k (nI a) = nI (a + mCt v k)
  | 0, a, _ => rfl
  | k + 1, a, h => by
    rw [tIn, mCt, tB_mB v k (by omega)]
    split
    · rw [tIn_ct v k a (by omega), Nat.zero_add]
    · rw [nI_1, tIn_ct v k (a + 1) (by omega)]; congr 1; omega
/-- the two tapes beside one another -/
def tpR (f g : Nat → Int32) (n : Nat) : Prop := ∀ j, j < n → f j = yB (g j)
theorem tAp_mPu (v : Int32) : ∀ (k : Nat) (f g : Nat → Int32) (n : Nat), k ≤ 4 → n + mCt v k ≤ 120 → tpR f g n → (tAp v k f n).2 = n + mCt v k ∧ (mPu v k g n).2 = n + mCt v k ∧ tpR (tAp v k f n).1 (mPu v k g n).1 (n + mCt v k)
  | 0, f, g, n, _, _, h => ⟨rfl, rfl, h⟩
  | k + 1, f, g, n, hk, hn, h => by
    rw [tAp, mPu, mCt, tB_mB v k (by omega)]
    rw [mCt] at hn
    split
    · next c =>
      rw [if_pos c] at hn
      rw [Nat.zero_add] at hn ⊢
      exact tAp_mPu v k f g n (by omega) hn h
    · next c =>
      rw [if_neg c] at hn
      rw [if_pos (by omega)]
      have := tAp_mPu v k (upd f n (mB v (nI (8 * k)))) (upd g n (vp_nar .byte (v >>> (nI (8 * k) &&& 31)).toInt8.toInt32)) (n + 1) (by omega) (by omega) (fun j hj => by
        unfold upd
        by_cases e : j = n
        · rw [if_pos e, if_pos e, sB_t v k (by omega), tB_mB v k (by omega)]
        · rw [if_neg e, if_neg e]; exact h j (by omega))
      rw [show n + (1 + mCt v k) = n + 1 + mCt v k by omega]
      exact this
