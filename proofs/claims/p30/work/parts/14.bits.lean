/-! bits of longs: rows, and what the marks are -/
def landZ (a b : Int) : Int := (lZ a &&& lZ b).toInt
def lorZ (a b : Int) : Int := (lZ a ||| lZ b).toInt
def shlZ (a b : Int) : Int := (lZ a <<< ((iZ b).toInt64 &&& 63)).toInt
def ushrZ (a b : Int) : Int := ((lZ a).toUInt64 >>> ((iZ b).toInt64.toUInt64 &&& Int64.toUInt64 63)).toInt64.toInt
def iandZ (a b : Int) : Int := (iZ a &&& iZ b).toInt
section ROWS4
variable {l : Launch} {G : GT} {own nm : String} {cc : ByteArray} {nL : Nat} {rm : Room} {K : KT} {cs : Nat × Nat} {pc : Nat} {lv lv' : List (Option Value)} {st st' : List Value} {ws ws' : va_W}
theorem V_land (h : Good l G own nm cc nL rm K) {a b : Int} (hd : decode cc pc = .ok (.land, 1)) (k : V K cs (pc + 1) lv (.long (lZ (landZ a b)) :: st) ws) : V K cs pc lv (.long (lZ b) :: .long (lZ a) :: st) ws := fun H locs ls hP hD hS hL => lv_land h.1 h.2.1 hd (by have k := k H locs ls hP hD hS hL; unfold landZ at k; rw [lZ_of] at k; exact k)
theorem V_lor (h : Good l G own nm cc nL rm K) {a b : Int} (hd : decode cc pc = .ok (.lor, 1)) (k : V K cs (pc + 1) lv (.long (lZ (lorZ a b)) :: st) ws) : V K cs pc lv (.long (lZ b) :: .long (lZ a) :: st) ws := fun H locs ls hP hD hS hL => lv_lor h.1 h.2.1 hd (by have k := k H locs ls hP hD hS hL; unfold lorZ at k; rw [lZ_of] at k; exact k)
theorem V_lshl (h : Good l G own nm cc nL rm K) {a b : Int} (hd : decode cc pc = .ok (.lshl, 1)) (k : V K cs (pc + 1) lv (.long (lZ (shlZ a b)) :: st) ws) : V K cs pc lv (.int (iZ b) :: .long (lZ a) :: st) ws := fun H locs ls hP hD hS hL => lv_lshl h.1 h.2.1 hd rfl (by have k := k H locs ls hP hD hS hL; unfold shlZ at k; rw [lZ_of] at k; exact k)
theorem V_lushr (h : Good l G own nm cc nL rm K) {a b : Int} (hd : decode cc pc = .ok (.lushr, 1)) (k : V K cs (pc + 1) lv (.long (lZ (ushrZ a b)) :: st) ws) : V K cs pc lv (.int (iZ b) :: .long (lZ a) :: st) ws := fun H locs ls hP hD hS hL => lv_lushr h.1 h.2.1 hd rfl (by have k := k H locs ls hP hD hS hL; unfold ushrZ at k; rw [lZ_of] at k; exact k)
theorem V_iand (h : Good l G own nm cc nL rm K) {a b : Int} (hd : decode cc pc = .ok (.iand, 1)) (k : V K cs (pc + 1) lv (.int (iZ (iandZ a b)) :: st) ws) : V K cs pc lv (.int (iZ b) :: .int (iZ a) :: st) ws := fun H locs ls hP hD hS hL => lv_iand h.1 h.2.1 hd (by have k := k H locs ls hP hD hS hL; unfold iandZ at k; rw [iZ_of] at k; exact k)
end ROWS4
def bc1 (x : Int) : Int := x - landZ (ushrZ x 1) 6148914691236517205
def bc2 (x : Int) : Int := landZ x 3689348814741910323 + landZ (ushrZ x 2) 3689348814741910323
def bc3 (x : Int) : Int := landZ (x + ushrZ x 4) 1085102592571150095
def bc4 (x : Int) : Int := x + ushrZ x 8
def bc5 (x : Int) : Int := x + ushrZ x 16
def bc6 (x : Int) : Int := x + ushrZ x 32
def bcZ (x : Int) : Int := iandZ (bc6 (bc5 (bc4 (bc3 (bc2 (bc1 x)))))) 127
theorem bcZ_low : ∀ k : Fin 64, bcZ (2 ^ k.val - 1) = (k.val : Int) := by decide +kernel
def lowZ (w : Int) : Int := bcZ (landZ w (-w) - 1)
def bitv (x : Int) : Int := shlZ 1 (x % 64)
abbrev mkNew (f : Int → Int) (x : Int) : Prop := landZ (f (x / 64)) (bitv x) = 0
def mkF (f : Int → Int) (x : Int) : Int → Int := if mkNew f x then zup f (x / 64) (lorZ (f (x / 64)) (bitv x)) else f
def mkC (f : Int → Int) (x c : Int) : Int := if mkNew f x then c + 1 else c
def clr0 (A : Int → Int) (k : Int) : Int → Int := fun j => if 0 ≤ j ∧ j < k then 0 else A j
theorem clr0_0 (A : Int → Int) : clr0 A 0 = A := by
  funext j
  unfold clr0
  rw [if_neg (by omega)]
theorem clr0_s {A : Int → Int} {k : Int} (h : 0 ≤ k) : zup (clr0 A k) k 0 = clr0 A (k + 1) := by
  funext j
  unfold zup clr0
  by_cases h0 : j = k
  · rw [if_pos h0, if_pos (by omega)]
  · rw [if_neg h0]
    by_cases hc : 0 ≤ j ∧ j < k
    · rw [if_pos hc, if_pos (by omega)]
    · rw [if_neg hc, if_neg (by omega)]
/-! bits: a word, its lowest bit -/
def bitN (w : Int) (k : Nat) : Bool := (lZ w).toBitVec.getLsbD k
def hasB (f : Int → Int) (x : Int) : Bool := bitN (f (x / 64)) (x % 64).toNat
theorem lZ_land (a b : Int) : lZ (landZ a b) = lZ a &&& lZ b := lZ_of _
theorem lZ_lor (a b : Int) : lZ (lorZ a b) = lZ a ||| lZ b := lZ_of _
theorem bit_land (a b : Int) (k : Nat) : bitN (landZ a b) k = (bitN a k && bitN b k) := by
  unfold bitN
  rw [lZ_land, Int64.toBitVec_and, BitVec.getLsbD_and]
theorem bit_lor (a b : Int) (k : Nat) : bitN (lorZ a b) k = (bitN a k || bitN b k) := by
  unfold bitN
  rw [lZ_lor, Int64.toBitVec_or, BitVec.getLsbD_or]
theorem bit_zero {a : Int} (ha : R64 a) : a = 0 ↔ ∀ k, k < 64 → bitN a k = false := by
  constructor
  · rintro rfl k hk
    unfold bitN
    rw [lZ_0]
    simp
  · intro h
    have e : lZ a = lZ 0 := by
      apply Int64.toBitVec_inj.mp
      apply BitVec.eq_of_getLsbD_eq
      intro i hi
      rw [lZ_0]
      have := h i hi
      unfold bitN at this
      rw [this]
      simp
    exact (lZ_eq ha (by decide)).mp e
theorem bitv_bit : ∀ j : Fin 64, ∀ k : Fin 64, bitN (shlZ 1 (j.val : Int)) k.val = decide (k = j) := by decide +kernel
theorem bit_bv {x : Int} {k : Nat} (hk : k < 64) : bitN (bitv x) k = decide ((k : Int) = x % 64) := by
  have h1 : 0 ≤ x % 64 ∧ x % 64 < 64 := by omega
  have e := bitv_bit ⟨(x % 64).toNat, by omega⟩ ⟨k, hk⟩
  dsimp only at e
  unfold bitv
  rw [show (((x % 64).toNat : Nat) : Int) = x % 64 by omega] at e
  rw [e]
  have : ((⟨k, hk⟩ : Fin 64) = ⟨(x % 64).toNat, by omega⟩) ↔ ((k : Int) = x % 64) := by
    rw [Fin.mk.injEq]
    omega
  exact decide_eq_decide.mpr this
theorem mkNew_iff {f : Int → Int} {x : Int} : mkNew f x ↔ hasB f x = false := by
  have h1 : 0 ≤ x % 64 ∧ x % 64 < 64 := by omega
  unfold mkNew
  rw [bit_zero (show R64 (landZ _ _) from lZ_R _)]
  constructor
  · intro h
    have e := h (x % 64).toNat (by omega)
    rw [bit_land, bit_bv (by omega), decide_eq_true (by omega), Bool.and_true] at e
    exact e
  · intro h k hk
    rw [bit_land, bit_bv hk]
    by_cases hx : (k : Int) = x % 64
    · have : k = (x % 64).toNat := by omega
      subst this
      unfold hasB at h
      rw [h]
      rfl
    · rw [decide_eq_false hx, Bool.and_false]
theorem mkF_has {f : Int → Int} {x y : Int} : hasB (mkF f x) y = (hasB f y || decide (y = x)) := by
  have h1 : 0 ≤ x % 64 ∧ x % 64 < 64 := by omega
  have h2 : 0 ≤ y % 64 ∧ y % 64 < 64 := by omega
  unfold mkF
  split
  · unfold hasB
    by_cases hq : y / 64 = x / 64
    · rw [hq, zup_s, bit_lor, bit_bv (by omega)]
      congr 1
      apply decide_eq_decide.mpr
      omega
    · rw [zup_n hq, decide_eq_false (by omega), Bool.or_false]
  · rename_i hn
    by_cases hq : y = x
    · subst hq
      rw [decide_eq_true rfl, Bool.or_true]
      cases hh : hasB f y with
      | true => rfl
      | false => exact absurd (mkNew_iff.mpr hh) hn
    · rw [decide_eq_false hq, Bool.or_false]
theorem mkF_R {f : Int → Int} {x : Int} (h : ∀ i, R64 (f i)) : ∀ i, R64 (mkF f x i) := by
  intro i
  unfold mkF
  split
  · unfold zup
    split
    · exact lZ_R _
    · exact h i
  · exact h i
theorem nat_low (n : Nat) (h : 0 < n) : ∃ k m : Nat, n = 2 ^ k * (2 * m + 1) := by
  induction n using Nat.strongRecOn with
  | ind n ih =>
    by_cases ho : n % 2 = 1
    · exact ⟨0, n / 2, by omega⟩
    · obtain ⟨k, m, e⟩ := ih (n / 2) (by omega) (by omega)
      exact ⟨k + 1, m, by rw [Nat.pow_succ, Nat.mul_assoc, Nat.mul_comm 2, ← Nat.mul_assoc]; omega⟩
theorem bcZ_low2 : ∀ k : Fin 64, bcZ ((Int64.ofBitVec (BitVec.twoPow 64 k.val)).toInt - 1) = (k.val : Int) := by decide +kernel
theorem bitN_nat (w : Int) (k : Nat) : bitN w k = (lZ w).toBitVec.toNat.testBit k := rfl
theorem low_bits {x : BitVec 64} {k m : Nat} (e : x.toNat = 2 ^ k * (2 * m + 1)) (i : Nat) (hi : i < 64) : x.getLsbD i = (if i < k then false else if i = k then true else m.testBit (i - k - 1)) ∧ (x - 1#64).getLsbD i = (if i < k then true else if i = k then false else m.testBit (i - k - 1)) := by
  have hp : 0 < 2 ^ k := Nat.two_pow_pos k
  have h1 : x.toNat = 2 ^ k * (2 * m + 1) + 0 := by omega
  have hx := x.isLt
  have h2 : (x - 1#64).toNat = 2 ^ k * (2 * m) + (2 ^ k - 1) := by
    rw [BitVec.toNat_sub, e]
    have e3 : 2 ^ k * (2 * m + 1) = 2 ^ k * (2 * m) + 2 ^ k := by rw [Nat.mul_add, Nat.mul_one]
    have e4 : (1#64).toNat = 1 := rfl
    rw [e4]
    omega
  have t1 : ∀ j, (2 * m + 1).testBit j = if j = 0 then true else m.testBit (j - 1) := by
    intro j
    cases j with
    | zero => simp
    | succ j => simp [Nat.testBit_succ]; rw [show (2 * m + 1) / 2 = m by omega]
  have t2 : ∀ j, (2 * m).testBit j = if j = 0 then false else m.testBit (j - 1) := by
    intro j
    cases j with
    | zero => simp
    | succ j => simp [Nat.testBit_succ]
  constructor
  · show x.toNat.testBit i = _
    rw [h1, Nat.testBit_two_pow_mul_add _ hp, t1]
    by_cases c1 : i < k
    · rw [if_pos c1, if_pos c1, Nat.zero_testBit]
    · rw [if_neg c1, if_neg c1]
      by_cases c2 : i = k
      · rw [if_pos (by omega), if_pos c2]
      · rw [if_neg (by omega), if_neg c2]
  · show (x - 1#64).toNat.testBit i = _
    rw [h2, Nat.testBit_two_pow_mul_add _ (by omega), t2]
    by_cases c1 : i < k
    · rw [if_pos c1, if_pos c1, Nat.testBit_two_pow_sub_one, decide_eq_true c1]
    · rw [if_neg c1, if_neg c1]
      by_cases c2 : i = k
      · rw [if_pos (by omega), if_pos c2]
      · rw [if_neg (by omega), if_neg c2]
theorem neg_not (x : BitVec 64) : -x = ~~~(x - 1#64) := by
  rw [BitVec.neg_eq_not_add]
  have e := BitVec.not_sub_one_eq_not_add_one (x := x)
  rw [e]
theorem low_sp {w : Int} (hw : R64 w) (h0 : w ≠ 0) : ∃ k : Nat, k < 64 ∧ bitN w k = true ∧ (∀ i, i < k → bitN w i = false) ∧ lowZ w = (k : Int) ∧ ∀ i, i < 64 → bitN (landZ w (w - 1)) i = (bitN w i && decide (i ≠ k)) := by
  have hn : 0 < (lZ w).toBitVec.toNat := by
    apply Nat.pos_of_ne_zero
    intro h
    have e : lZ w = lZ 0 := by
      apply Int64.toBitVec_inj.mp
      apply BitVec.eq_of_toNat_eq
      rw [h, lZ_0]
      rfl
    exact h0 ((lZ_eq hw (by decide)).mp e)
  obtain ⟨k, m, e⟩ := nat_low _ hn
  have hlt := (lZ w).toBitVec.isLt
  have hk : k < 64 := by
    apply Nat.lt_of_not_le
    intro h
    have h1 : 2 ^ 64 ≤ 2 ^ k := Nat.pow_le_pow_right (by decide) h
    have h2 : 2 ^ k * 1 ≤ 2 ^ k * (2 * m + 1) := Nat.mul_le_mul_left _ (by omega)
    omega
  have B := low_bits (x := (lZ w).toBitVec) e
  have e1 : lZ (w - 1) = lZ w - 1 := by
    rw [← lZ_sub]
    rfl
  have e2 : (lZ (w - 1)).toBitVec = (lZ w).toBitVec - 1#64 := by
    rw [e1]
    rfl
  refine ⟨k, hk, ?_, fun i hi => ?_, ?_, fun i hi => ?_⟩
  · show (lZ w).toBitVec.getLsbD k = true
    rw [(B k hk).1, if_neg (by omega), if_pos rfl]
  · show (lZ w).toBitVec.getLsbD i = false
    rw [(B i (by omega)).1, if_pos hi]
  · unfold lowZ
    have e3 : lZ w &&& lZ (-w) = Int64.ofBitVec (BitVec.twoPow 64 k) := by
      apply Int64.toBitVec_inj.mp
      apply BitVec.eq_of_getLsbD_eq
      intro i hi
      rw [← lZ_neg, Int64.toBitVec_and, Int64.toBitVec_neg, neg_not, BitVec.getLsbD_and, BitVec.getLsbD_not, (B i hi).1, (B i hi).2]
      show _ = (BitVec.twoPow 64 k).getLsbD i
      rw [BitVec.getLsbD_twoPow]
      by_cases c1 : i < k
      · rw [if_pos c1, if_pos c1]
        have n1 : ¬ i = k := by omega
        have n2 : ¬ k = i := by omega
        simp [n1, n2]
      · rw [if_neg c1, if_neg c1]
        by_cases c2 : i = k
        · rw [if_pos c2, if_pos c2]
          simp [c2, hk]
        · rw [if_neg c2, if_neg c2]
          have n2 : ¬ k = i := by omega
          simp [c2, n2]
          intro q _
          exact q
    unfold landZ
    rw [e3]
    exact bcZ_low2 ⟨k, hk⟩
  · rw [bit_land]
    show ((lZ w).toBitVec.getLsbD i && (lZ (w - 1)).toBitVec.getLsbD i) = ((lZ w).toBitVec.getLsbD i && _)
    rw [e2, (B i hi).1, (B i hi).2]
    by_cases c1 : i < k
    · rw [if_pos c1, if_pos c1]
      simp
    · rw [if_neg c1, if_neg c1]
      by_cases c2 : i = k
      · rw [if_pos c2, if_pos c2]
        simp [c2]
      · rw [if_neg c2, if_neg c2]
        simp [c2]
/-! the stretch without a hit: the marked places, one after the other -/
def scanG (p : Int → Bool) : Nat → Int × Int × Int
  | 0 => (0, -1, -1)
  | q + 1 => if p (q : Int) then (max (scanG p q).1 ((q : Int) - (scanG p q).2.2 - 1), (if (scanG p q).2.1 < 0 then (q : Int) else (scanG p q).2.1), (q : Int)) else scanG p q
theorem scan_R (p : Int → Bool) : ∀ q : Nat, 0 ≤ (scanG p q).1 ∧ (scanG p q).1 ≤ q ∧ -1 ≤ (scanG p q).2.1 ∧ (scanG p q).2.1 < q ∧ -1 ≤ (scanG p q).2.2 ∧ (scanG p q).2.2 < q
  | 0 => by
    simp only [scanG]
    omega
  | q + 1 => by
    have := scan_R p q
    unfold scanG
    split
    · dsimp only
      split <;> omega
    · omega
theorem scan_gap {p : Int → Bool} {a : Nat} : ∀ d : Nat, (∀ j : Nat, a ≤ j → j < a + d → p (j : Int) = false) → scanG p (a + d) = scanG p a
  | 0, _ => rfl
  | d + 1, h => by
    have e := scan_gap d (fun j h1 h2 => h j h1 (by omega))
    have h2 := h (a + d) (by omega) (by omega)
    have e3 : scanG p (a + d + 1) = scanG p (a + d) := by
      rw [scanG, h2]
      rfl
    exact e3.trans e
theorem has_at (f : Int → Int) {q j : Nat} (h : j < 64) : hasB f ((64 * q + j : Nat) : Int) = bitN (f (q : Int)) j := by
  unfold hasB
  rw [show ((64 * q + j : Nat) : Int) / 64 = (q : Int) by omega, show (((64 * q + j : Nat) : Int) % 64).toNat = j by omega]
theorem scan_step {f : Int → Int} {q b k : Nat} {g a1 b1 : Int} (hs : scanG (hasB f) (64 * q + b) = (g, a1, b1)) (hbk : b ≤ k) (hk : k < 64) (hno : ∀ j, b ≤ j → j < k → bitN (f (q : Int)) j = false) (hyes : bitN (f (q : Int)) k = true) :
    scanG (hasB f) (64 * q + (k + 1)) = (max g (64 * (q : Int) + (k : Int) - b1 - 1), (if a1 < 0 then 64 * (q : Int) + (k : Int) else a1), 64 * (q : Int) + (k : Int)) := by
  obtain ⟨d, rfl⟩ : ∃ d, k = b + d := ⟨k - b, by omega⟩
  have e := scan_gap (p := hasB f) (a := 64 * q + b) d (fun j h1 h2 => by
    obtain ⟨j', rfl⟩ : ∃ j', j = 64 * q + j' := ⟨j - 64 * q, by omega⟩
    rw [has_at f (by omega)]
    exact hno j' (by omega) (by omega))
  have e2 : hasB f ((64 * q + (b + d) : Nat) : Int) = true := by rw [has_at f hk]; exact hyes
  rw [show 64 * q + (b + d + 1) = 64 * q + (b + d) + 1 by omega, scanG, e2, show 64 * q + (b + d) = 64 * q + b + d by omega, e, hs]
  simp only [if_true]
  rw [show ((64 * q + b + d : Nat) : Int) = 64 * (q : Int) + ((b + d : Nat) : Int) by omega]
theorem scan_end {f : Int → Int} {q b : Nat} {x : Int × Int × Int} (hs : scanG (hasB f) (64 * q + b) = x) (hb : b ≤ 64) (hno : ∀ j, b ≤ j → j < 64 → bitN (f (q : Int)) j = false) : scanG (hasB f) (64 * (q + 1)) = x := by
  have e := scan_gap (p := hasB f) (a := 64 * q + b) (64 - b) (fun j h1 h2 => by
    obtain ⟨j', rfl⟩ : ∃ j', j = 64 * q + j' := ⟨j - 64 * q, by omega⟩
    rw [has_at f (by omega)]
    exact hno j' (by omega) (by omega))
  rw [show 64 * (q + 1) = 64 * q + b + (64 - b) by omega, e, hs]
theorem bit_next {x : Bool} {b k j : Nat} (hbk : b ≤ k) (h : b ≤ j → j < k → x = false) : ((x && decide (b ≤ j)) && decide (j ≠ k)) = (x && decide (k + 1 ≤ j)) := by
  by_cases h1 : k + 1 ≤ j
  · have h2 : b ≤ j := by omega
    have h3 : j ≠ k := by omega
    simp [h1, h2, h3]
  · by_cases h3 : j = k
    · have h4 : ¬ k + 1 ≤ k := by omega
      simp [h3, h4]
    · by_cases h2 : b ≤ j
      · have := h h2 (by omega)
        simp [this]
      · simp [h1, h2]
theorem mk_t {f : Int → Int} {x c : Int} (h : mkNew f x) : mkF f x = zup f (x / 64) (lorZ (f (x / 64)) (shlZ 1 (x % 64))) ∧ mkC f x c = c + 1 := ⟨if_pos h, if_pos h⟩
theorem mk_f {f : Int → Int} {x c : Int} (h : ¬ mkNew f x) : mkF f x = f ∧ mkC f x c = c := ⟨if_neg h, if_neg h⟩
def gapC (f : Int → Int) (c : Int) : Int := if c = 0 then 27720 else max (scanG (hasB f) 27776).1 ((scanG (hasB f) 27776).2.1 + 27720 - (scanG (hasB f) 27776).2.2 - 1)

