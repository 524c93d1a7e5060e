/-! the reference: what it reads stands on the wall -/
def adI (kd nb vv : Int → Int) : Nat → Int → Int
  | 0 => vv
  | k + 1 => adF (adI kd nb vv k) (kd (k : Int)) (nb (3 * (k : Int))) (nb (3 * (k : Int) + 1)) (nb (3 * (k : Int) + 2))
theorem adI_s {kd nb vv : Int → Int} {k : Int} (hk : 0 ≤ k) : adI kd nb vv (k + 1).toNat = adF (adI kd nb vv k.toNat) (kd k) (nb (3 * k)) (nb (3 * k + 1)) (nb (3 * k + 2)) := by
  rw [show (k + 1).toNat = k.toNat + 1 by omega, adI, Int.toNat_of_nonneg hk]
theorem adI_0 {kd nb vv : Int → Int} : ∀ k : Nat, adI kd nb vv k 0 = vv 0 + k
  | 0 => (Int.add_zero _).symm
  | k + 1 => by
    have e := adI_0 (kd := kd) (nb := nb) (vv := vv) k
    unfold adI adF
    rw [zup_s, e]
    omega
