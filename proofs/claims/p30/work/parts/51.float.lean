/-! floats: the rows, and that a mean is a number -/
theorem nat_of32 {n : Nat} (h : n < 4294967296) : (UInt32.ofNat n).toNat = n := by
  rw [UInt32.toNat_ofNat']
  omega
theorem nat_of64 {n : Nat} (h : n < 18446744073709551616) : (UInt64.ofNat n).toNat = n := by
  rw [UInt64.toNat_ofNat']
  omega
theorem enc32 (s : Bool) (num den : Nat) (e : Int) : FP.Core.encode FP.Core.b32 (FP.Core.roundRatio FP.Core.b32 s num den e) < 4294967296 ∧ FP.Core.encode FP.Core.b32 (FP.Core.roundRatio FP.Core.b32 s num den e) % 2147483648 ≤ 2139095040 := by
  have hs : s.toNat = 0 ∨ s.toNat = 1 := by cases s <;> simp
  have key : ∀ (c : Nat) (q : Int), c < 16777216 → q ≤ 104 → FP.Core.encode FP.Core.b32 (.fin s c q) < 4294967296 ∧ FP.Core.encode FP.Core.b32 (.fin s c q) % 2147483648 ≤ 2139095040 := by
    intro c q hc hq
    unfold FP.Core.encode
    dsimp only
    unfold FP.Core.assemble
    simp only [show FP.Core.b32.tails = 8388608 from rfl, show FP.Core.b32.exps = 256 from rfl, show FP.Core.b32.qmin = -149 from rfl]
    split <;> omega
  have hinf : FP.Core.encode FP.Core.b32 (.inf s) < 4294967296 ∧ FP.Core.encode FP.Core.b32 (.inf s) % 2147483648 ≤ 2139095040 := by
    unfold FP.Core.encode
    dsimp only
    unfold FP.Core.assemble
    simp only [show FP.Core.b32.tails = 8388608 from rfl, show FP.Core.b32.exps = 256 from rfl]
    omega
  unfold FP.Core.roundRatio
  split
  · exact key 0 _ (by decide) (by decide)
  · unfold FP.Core.roundAt FP.Core.settle FP.Core.bound
    simp only [show FP.Core.b32.qmax = 104 from rfl, show (2 : Nat) ^ FP.Core.b32.p = 16777216 from rfl, show FP.Core.b32.tails = 8388608 from rfl]
    split
    · rename_i h1
      split
      · rename_i h2
        exact key _ _ h1 h2
      · exact hinf
    · split
      · rename_i h2
        exact key _ _ (by decide) h2
      · exact hinf
theorem enc64 (s : Bool) (num den : Nat) (e : Int) : FP.Core.encode FP.Core.b64 (FP.Core.roundRatio FP.Core.b64 s num den e) < 18446744073709551616 ∧ FP.Core.encode FP.Core.b64 (FP.Core.roundRatio FP.Core.b64 s num den e) % 9223372036854775808 ≤ 9218868437227405312 := by
  have hs : s.toNat = 0 ∨ s.toNat = 1 := by cases s <;> simp
  have key : ∀ (c : Nat) (q : Int), c < 9007199254740992 → q ≤ 971 → FP.Core.encode FP.Core.b64 (.fin s c q) < 18446744073709551616 ∧ FP.Core.encode FP.Core.b64 (.fin s c q) % 9223372036854775808 ≤ 9218868437227405312 := by
    intro c q hc hq
    unfold FP.Core.encode
    dsimp only
    unfold FP.Core.assemble
    simp only [show FP.Core.b64.tails = 4503599627370496 from rfl, show FP.Core.b64.exps = 2048 from rfl, show FP.Core.b64.qmin = -1074 from rfl]
    split <;> omega
  have hinf : FP.Core.encode FP.Core.b64 (.inf s) < 18446744073709551616 ∧ FP.Core.encode FP.Core.b64 (.inf s) % 9223372036854775808 ≤ 9218868437227405312 := by
    unfold FP.Core.encode
    dsimp only
    unfold FP.Core.assemble
    simp only [show FP.Core.b64.tails = 4503599627370496 from rfl, show FP.Core.b64.exps = 2048 from rfl]
    omega
  unfold FP.Core.roundRatio
  split
  · exact key 0 _ (by decide) (by decide)
  · unfold FP.Core.roundAt FP.Core.settle FP.Core.bound
    simp only [show FP.Core.b64.qmax = 971 from rfl, show (2 : Nat) ^ FP.Core.b64.p = 9007199254740992 from rfl, show FP.Core.b64.tails = 4503599627370496 from rfl]
    split
    · rename_i h1
      split
      · rename_i h2
        exact key _ _ h1 h2
      · exact hinf
    · split
      · rename_i h2
        exact key _ _ (by decide) h2
      · exact hinf
theorem dec32 {n : Nat} (h : n < 4294967296) (h2 : n % 2147483648 ≤ 2139095040) : FP.Core.decode FP.Core.b32 n ≠ .nan := by
  unfold FP.Core.decode
  split
  · rename_i h3
    split
    · exact FP.Core.Datum.noConfusion
    · rename_i h4
      unfold FP.Core.fieldE at h3
      unfold FP.Core.fieldT at h4
      rw [show FP.Core.b32.tails = 8388608 from rfl, show FP.Core.b32.exps = 256 from rfl] at h3
      rw [show FP.Core.b32.tails = 8388608 from rfl] at h4
      omega
  · split <;> exact FP.Core.Datum.noConfusion
theorem dec64 {n : Nat} (h : n < 18446744073709551616) (h2 : n % 9223372036854775808 ≤ 9218868437227405312) : FP.Core.decode FP.Core.b64 n ≠ .nan := by
  unfold FP.Core.decode
  split
  · rename_i h3
    split
    · exact FP.Core.Datum.noConfusion
    · rename_i h4
      unfold FP.Core.fieldE at h3
      unfold FP.Core.fieldT at h4
      rw [show FP.Core.b64.tails = 4503599627370496 from rfl, show FP.Core.b64.exps = 2048 from rfl] at h3
      rw [show FP.Core.b64.tails = 4503599627370496 from rfl] at h4
      omega
  · split <;> exact FP.Core.Datum.noConfusion
/-- bits that are no NaN -/
def Fok (a : UInt32) : Prop := a.toNat % 2147483648 ≤ 2139095040
theorem Fok.n {a : UInt32} (h : Fok a) : vf_n32 a := by
  unfold vf_n32
  rw [UInt32.le_iff_toNat_le, UInt32.toNat_and]
  show a.toNat &&& 2 ^ 31 - 1 ≤ 2139095040
  rw [Nat.and_two_pow_sub_one_eq_mod]
  exact h
theorem Fok.d {a : UInt32} (h : Fok a) : FP.Core.decode FP.Core.b32 a.toNat ≠ .nan := dec32 a.toNat_lt h
def Dok (a : UInt64) : Prop := a.toNat % 9223372036854775808 ≤ 9218868437227405312
theorem Dok.n {a : UInt64} (h : Dok a) : vf_n64 a := by
  unfold vf_n64
  rw [UInt64.le_iff_toNat_le, UInt64.toNat_and]
  show a.toNat &&& 2 ^ 63 - 1 ≤ 9218868437227405312
  rw [Nat.and_two_pow_sub_one_eq_mod]
  exact h
theorem Dok.d {a : UInt64} (h : Dok a) : FP.Core.decode FP.Core.b64 a.toNat ≠ .nan := dec64 a.toNat_lt h
theorem l2f_ok (v : Int64) : Fok (FP.l2f v) := by
  unfold Fok FP.l2f FP.Core.l2f FP.Core.fromInt FP.Core.ofInt FP.Core.round
  have h := enc32 (decide (v.toInt < 0)) v.toInt.natAbs 1 0
  rw [nat_of32 h.1]
  exact h.2
def okD : FP.Core.Datum → Bool
  | .fin _ d _ => d != 0
  | _ => false
theorem cnt_ok : ∀ c : Fin 600, okD (FP.Core.decode FP.Core.b32 (FP.i2f (iZ ((c.val : Int) + 1))).toNat) = true := by decide +kernel
theorem fdiv_ok {x y : UInt32} (hx : Fok x) (hy : okD (FP.Core.decode FP.Core.b32 y.toNat) = true) : Fok (FP.fdiv x y) := by
  have hd := hx.d
  unfold Fok FP.fdiv FP.Core.fdiv FP.Core.div
  have hinf : ∀ s : Bool, FP.Core.encode FP.Core.b32 (.inf s) < 4294967296 ∧ FP.Core.encode FP.Core.b32 (.inf s) % 2147483648 ≤ 2139095040 := by decide
  generalize FP.Core.decode FP.Core.b32 x.toNat = dx at hd
  generalize FP.Core.decode FP.Core.b32 y.toNat = dy at hy
  cases dy with
  | nan => exact absurd hy (by decide)
  | inf s => exact absurd hy (by simp [okD])
  | fin t d r =>
    have hd0 : d ≠ 0 := by
      intro q
      subst q
      exact absurd hy (by simp [okD])
    cases dx with
    | nan => exact absurd rfl hd
    | inf s =>
      have h := hinf (s != t)
      show (UInt32.ofNat (FP.Core.encode FP.Core.b32 (.inf (s != t)))).toNat % 2147483648 ≤ _
      rw [nat_of32 h.1]
      exact h.2
    | fin s c q =>
      have h := enc32 (s != t) c d (q - r)
      show (UInt32.ofNat (FP.Core.encode FP.Core.b32 (if d = 0 then _ else FP.Core.roundRatio FP.Core.b32 (s != t) c d (q - r)))).toNat % 2147483648 ≤ _
      rw [if_neg hd0, nat_of32 h.1]
      exact h.2
theorem f2d_ok {x : UInt32} (hx : Fok x) : Dok (FP.f2d x) := by
  have hd := hx.d
  have hn : FP.Core.fIsNaN x = false := by
    unfold FP.Core.fIsNaN FP.Core.isNaN
    exact decide_eq_false hd
  have hinf : ∀ s : Bool, FP.Core.encode FP.Core.b64 (.inf s) < 18446744073709551616 ∧ FP.Core.encode FP.Core.b64 (.inf s) % 9223372036854775808 ≤ 9218868437227405312 := by decide
  unfold Dok FP.f2d
  rw [hn]
  show (FP.Core.f2d x).toNat % _ ≤ _
  unfold FP.Core.f2d FP.Core.convert
  generalize FP.Core.decode FP.Core.b32 x.toNat = dx at hd
  cases dx with
  | nan => exact absurd rfl hd
  | inf s =>
    have h := hinf s
    show (UInt64.ofNat (FP.Core.encode FP.Core.b64 (.inf s))).toNat % _ ≤ _
    rw [nat_of64 h.1]
    exact h.2
  | fin s c q =>
    have h := enc64 s c 1 q
    show (UInt64.ofNat (FP.Core.encode FP.Core.b64 (FP.Core.roundRatio FP.Core.b64 s c 1 q))).toNat % _ ≤ _
    rw [nat_of64 h.1]
    exact h.2
theorem cmp_self {a : Int} : compare a a = Ordering.eq := by simp
theorem dcmp_ok {a : UInt64} (h : Dok a) : FP.dcmp a a = some .eq := by
  have hd := h.d
  unfold FP.dcmp FP.Core.dcmp FP.Core.cmp
  generalize FP.Core.decode FP.Core.b64 a.toNat = d at hd
  cases d with
  | nan => exact absurd rfl hd
  | inf s =>
    show some (compare (FP.Core.signed s 1) (FP.Core.signed s 1)) = _
    rw [cmp_self]
  | fin s c q =>
    show some (compare (FP.Core.signed s (FP.Core.inUnits c q (min q q))) (FP.Core.signed s (FP.Core.inUnits c q (min q q)))) = _
    rw [cmp_self]
def meanV (es nh : Int) : UInt32 := if nh = 0 then FP.fconst0 else FP.fdiv (FP.l2f (lZ es)) (FP.i2f (iZ nh))
theorem div_ok {es nh : Int} (h : 1 ≤ nh ∧ nh ≤ 600) : Fok (FP.fdiv (FP.l2f (lZ es)) (FP.i2f (iZ nh))) := by
  have e := cnt_ok ⟨(nh - 1).toNat, by omega⟩
  dsimp only at e
  rw [show (((nh - 1).toNat : Nat) : Int) + 1 = nh by omega] at e
  exact fdiv_ok (l2f_ok _) e
theorem mean_ok {es nh : Int} (h : 0 ≤ nh ∧ nh ≤ 600) : Fok (meanV es nh) := by
  unfold meanV
  split
  · unfold Fok
    decide
  · exact div_ok (by omega)
section ROWSF
variable {l : Launch} {G : GT} {own nm : String} {cc : ByteArray} {nL : Nat} {rm : Room} {K : KT} {cs : Nat × Nat} {pc : Nat} {lv lv' : List (Option Value)} {st st' : List Value} {ws ws' : va_W} {PO : Option Value → va_W → Prop} {mc ms : Nat}
theorem V_fconst0 (h : Good l G own nm cc nL rm K) (hd : decode cc pc = .ok (.fconst 0, 1)) (k : V K cs (pc + 1) lv (.float FP.fconst0 :: st) ws) : V K cs pc lv st ws := fun H locs ls hP hD hS hL => lv_fconst0 h.1 h.2.1 hd (k H locs ls hP hD hS hL)
theorem V_l2f (h : Good l G own nm cc nL rm K) {x : Int64} (hd : decode cc pc = .ok (.l2f, 1)) (k : V K cs (pc + 1) lv (.float (FP.l2f x) :: st) ws) : V K cs pc lv (.long x :: st) ws := fun H locs ls hP hD hS hL => lv_l2f h.1 h.2.1 hd (k H locs ls hP hD hS hL)
theorem V_i2f (h : Good l G own nm cc nL rm K) {x : Int32} (hd : decode cc pc = .ok (.i2f, 1)) (k : V K cs (pc + 1) lv (.float (FP.i2f x) :: st) ws) : V K cs pc lv (.int x :: st) ws := fun H locs ls hP hD hS hL => lv_i2f h.1 h.2.1 hd (k H locs ls hP hD hS hL)
theorem V_fdiv (h : Good l G own nm cc nL rm K) {x y : UInt32} (hd : decode cc pc = .ok (.fdiv, 1)) (hn : Fok (FP.fdiv x y)) (k : V K cs (pc + 1) lv (.float (FP.fdiv x y) :: st) ws) : V K cs pc lv (.float y :: .float x :: st) ws := fun H locs ls hP hD hS hL => lv_fdiv h.1 h.2.1 hd hn.n (k H locs ls hP hD hS hL)
theorem V_f2d (h : Good l G own nm cc nL rm K) {x : UInt32} (hd : decode cc pc = .ok (.f2d, 1)) (hn : Fok x) (k : V K cs (pc + 1) lv (.double (FP.f2d x) :: st) ws) : V K cs pc lv (.float x :: st) ws := fun H locs ls hP hD hS hL => lv_f2d h.1 h.2.1 hd (f2d_ok hn).n (k H locs ls hP hD hS hL)
theorem V_fret (h : Good l G own nm cc nL rm K) {x : UInt32} (hF : Fini (some .float) mc ms PO K) (hd : decode cc pc = .ok (.freturn, 1)) (hcs : cs.1 ≤ mc ∧ cs.2 ≤ ms) (hp : PO (some (.float x)) ws) : V K cs pc lv [.float x] ws :=
  V_end h hF hp hcs (fun _ _ _ hq hf => W.fret h.1 h.2.1 hF.2.1 hq hf hd hF.2.2)
end ROWSF
theorem det_f {x r : UInt32} {ws w1 : va_W} (h : x = r) (hw : ws = w1) : Det (some (.float r)) w1 (some (.float x)) ws := ⟨by rw [h], hw⟩
