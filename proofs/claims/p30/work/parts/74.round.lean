/-! p30: an aimed ray, alone: where it goes, what it covers, the stretches between -/
theorem bez : ∀ (a b : Nat), ∃ x y : Int, (a : Int) * x + (b : Int) * y = ((Nat.gcd a b : Nat) : Int) := by
  intro a
  induction a using Nat.strongRecOn with
  | ind a ih =>
    intro b
    by_cases h : a = 0
    · subst h
      exact ⟨0, 1, by rw [Nat.gcd_zero_left]; omega⟩
    · obtain ⟨x, y, e⟩ := ih (b % a) (Nat.mod_lt _ (by omega)) a
      refine ⟨y - ((b / a : Nat) : Int) * x, x, ?_⟩
      rw [Nat.gcd_rec, ← e]
      have h1 : ((b : Nat) : Int) = (a : Int) * ((b / a : Nat) : Int) + ((b % a : Nat) : Int) := by
        have := Nat.div_add_mod b a
        rw [← Int.natCast_mul, ← Int.natCast_add, this]
      rw [Int.mul_sub]
      conv => lhs; rw [h1]
      rw [Int.add_mul, Int.mul_assoc]
      omega
theorem bezF (s : Int) : ∃ x y : Int, 27720 * x + s * y = gcdF s := by
  obtain ⟨x, y, e⟩ := bez 27720 s.natAbs
  have e2 : gcdF s = ((Nat.gcd 27720 s.natAbs : Nat) : Int) := by
    unfold gcdF
    rw [Int.gcd, show Int.natAbs 27720 = 27720 from rfl]
  rw [← e2, show ((27720 : Nat) : Int) = 27720 from rfl] at e
  by_cases h : 0 ≤ s
  · exact ⟨x, y, by rw [← e, Int.natAbs_of_nonneg h]⟩
  · refine ⟨x, -y, ?_⟩
    rw [← e, show (s.natAbs : Int) = -s by omega, Int.neg_mul, Int.mul_neg]
def ordF (s : Int) : Int := 27720 / gcdF s
theorem ord_gcd (s : Int) : gcdF s * ordF s = 27720 := Int.mul_ediv_cancel' (gcd_dvd s)
theorem ord_dvd (s : Int) : (27720 : Int) ∣ ordF s * s := by
  obtain ⟨v, hv⟩ := gcd_dvd_r s
  refine ⟨v, ?_⟩
  have e : ordF s * s = ordF s * (gcdF s * v) := congrArg (fun z => ordF s * z) hv
  rw [e, Int.mul_left_comm, ← Int.mul_assoc, ord_gcd]
theorem ord_min {s d : Int} (h : (27720 : Int) ∣ d * s) : ordF s ∣ d := by
  obtain ⟨w, hw⟩ := h
  obtain ⟨x, y, e⟩ := bezF s
  have hg := gcd_pos s
  refine ⟨d * x + w * y, ?_⟩
  have h1 : d * gcdF s = gcdF s * (ordF s * (d * x + w * y)) := by
    rw [← Int.mul_assoc, ord_gcd, ← e, Int.mul_add, Int.mul_add, ← Int.mul_assoc d s, hw, Int.mul_assoc, Int.mul_left_comm d]
  rw [Int.mul_comm d] at h1
  exact Int.eq_of_mul_eq_mul_left (Int.ne_of_gt hg) h1
theorem ordF_R (s : Int) : 1 ≤ ordF s ∧ ordF s ≤ 27720 := ord_R s
theorem mod_iff {p a b s : Int} : (p + a * s) % 27720 = (p + b * s) % 27720 ↔ (27720 : Int) ∣ (a - b) * s := by
  rw [Int.emod_eq_emod_iff_emod_sub_eq_zero, Int.sub_mul, show p + a * s - (p + b * s) = a * s - b * s by omega]
  exact ⟨Int.dvd_of_emod_eq_zero, Int.emod_eq_zero_of_dvd⟩
theorem mod_ne {p a b s : Int} (h : 0 < a - b) (h2 : a - b < ordF s) : (p + a * s) % 27720 ≠ (p + b * s) % 27720 := by
  intro q
  have := Int.le_of_dvd h (ord_min (mod_iff.mp q))
  omega
theorem mod_ord {p a s : Int} : (p + (a + ordF s) * s) % 27720 = (p + a * s) % 27720 := mod_iff.mpr (by rw [show a + ordF s - a = ordF s by omega]; exact ord_dvd s)
/-- the single ray after k hits -/
def AI (p s : Int) (k : Nat) (y : FX) : Prop := y.1.1.1 = 1 ∧ y.1.1.2.1 0 = (p + (k : Int) * s) % 27720 ∧ y.1.1.2.2.1 0 = s ∧ y.1.1.2.2.2.1 0 = 5000 ∧ y.1.1.2.2.2.2.2 0 ≠ 0 ∧ y.2.1.1 = (k : Int) ∧ (∀ i : Int, 0 ≤ i → i < (k : Int) → y.2.1.2.2 (i * 5 + 1) = (p + (i + 1) * s) % 27720) ∧ MarkR y.2.1.2.2 (k : Int) y.2.2.1.2 y.2.2.1.1 ∧ y.2.2.1.1 = min (k : Int) (ordF s)
theorem ini_AI {p s : Int} {y : FX} (hp : 0 ≤ p ∧ p < 27720) (hw : ∀ i, R64 (y.2.2.1.2 i)) : AI p s 0 (ini0 p s 5000 y) := by
  have hb : ∀ (f : Int → Int) (x : Int), bgZ f 0 x 0 = x := fun f x => by unfold bgZ; rw [if_pos (by decide), zup_s]
  have ho := ordF_R s
  unfold ini0 AI
  dsimp only
  rw [hb, hb, hb, hb]
  refine ⟨rfl, by rw [show ((0 : Nat) : Int) = 0 from rfl, Int.zero_mul]; omega, rfl, rfl, by decide, rfl, fun i a b => by omega, mark_0 hw, ?_⟩
  rw [show ((0 : Nat) : Int) = 0 from rfl]
  omega
theorem it_AI {f : Int → Int} {p s : Int} {y : FX} (h : AI p s 0 y) : ∀ k : Nat, AI p s k (itX 1000 0 0 f k y)
  | 0 => h
  | k + 1 => by
    have e := it_AI (f := f) h k
    rw [itX]
    generalize itX 1000 0 0 f k y = Y at e ⊢
    obtain ⟨⟨⟨m, P, S, E, T, U⟩, A, ec, Ec⟩, ⟨h0, es, Nn⟩, ⟨c, wd⟩, pc, Cn⟩ := Y
    obtain ⟨e1, e2, e3, e4, e5, e6, e7, e8, e9⟩ := e
    dsimp only at e1 e2 e3 e4 e5 e6 e7 e8 e9
    subst e1
    subst e6
    have hx : nxtX (((1, P, S, E, T, U), A, ec, Ec), ((k : Int), es, Nn), (c, wd), pc, Cn) = 0 := by
      unfold nxtX
      dsimp only
      show erlF T U 1 = 0
      unfold erlF
      rw [if_pos ⟨e5, Or.inl rfl⟩]
      rfl
    rw [hx, if_neg (by decide)]
    have hp : newP (1, P, S, E, T, U) 0 = (p + ((k : Int) + 1) * s) % 27720 := by
      unfold newP
      dsimp only
      rw [e2, e3, Int.emod_add_emod, Int.add_mul, Int.one_mul]
      congr 1
      omega
    have hp1 : 0 ≤ newP (1, P, S, E, T, U) 0 ∧ newP (1, P, S, E, T, U) 0 < 27720 := by unfold newP; dsimp only; omega
    have hm := mark_s (r := 0) (t := T 0) (e := E 0) (s := S 0) e8 (by omega) hp1
    unfold goX hitX
    dsimp only
    show AI p s (k + 1) ((endR 1000 0 (hit0 0 0 (1, P, S, E, T, U)), A, ec, Ec), _)
    have hh : hit0 0 0 (1, P, S, E, T, U) = (1, zup P 0 (newP (1, P, S, E, T, U) 0), S, zup E 0 (E 0 * (1000 - 0) / 1000), T, U) := rfl
    rw [hh, end_a (by rw [zup_s, e4]; decide) e5]
    have ho := ordF_R s
    refine ⟨rfl, ?_, e3, ?_, e5, rfl, fun i a b => ?_, hm, ?_⟩
    · dsimp only
      rw [zup_s, hp]
      rfl
    · dsimp only
      rw [zup_s, e4]
      rfl
    · dsimp only
      by_cases hi : i = (k : Int)
      · subst hi
        rw [note_1, hp]
      · rw [note_o (by omega)]
        exact e7 i a (by omega)
    · dsimp only
      generalize newP (1, P, S, E, T, U) 0 = np at hp hp1 hm ⊢
      unfold mkC
      have hb := e8.1 np hp1.1 (by omega)
      by_cases hq : mkNew wd np
      · rw [if_pos hq]
        have hf := mkNew_iff.mp hq
        by_cases hk : (k : Int) < ordF s
        · clear hb hm e8
          omega
        · exfalso
          have : hasB wd np = true := hb.mpr ⟨(k : Int) - ordF s, by omega, by omega, by
            rw [e7 _ (by omega) (by omega), hp, ← mod_ord (a := (k : Int) - ordF s + 1)]
            congr 3
            omega⟩
          rw [hf] at this
          cases this
      · rw [if_neg hq]
        have ht : hasB wd np = true := by
          cases hz : hasB wd np with
          | true => rfl
          | false => exact absurd (mkNew_iff.mpr hz) hq
        obtain ⟨i, i0, i1, i2⟩ := hb.mp ht
        rw [e7 i i0 i1, hp] at i2
        by_cases hk : (k : Int) < ordF s
        · exact absurd i2.symm (mod_ne (by omega) (by omega))
        · clear hb hm e8
          omega
/-! the stretches -/
theorem suc_mod {y G : Int} (hG : 0 < G) : (y + 1) % G = if y % G + 1 = G then 0 else y % G + 1 := by
  have e := Int.mul_ediv_add_emod y G
  have h1 := Int.emod_nonneg y (Int.ne_of_gt hG)
  have h2 := Int.emod_lt_of_pos y hG
  by_cases h : y % G + 1 = G
  · rw [if_pos h]
    have : y + 1 = G * (y / G + 1) := by rw [Int.mul_add]; omega
    rw [this, Int.mul_emod_right]
  · rw [if_neg h]
    have : y + 1 = (y % G + 1) + G * (y / G) := by omega
    rw [this, Int.add_mul_emod_self_left]
    exact Int.emod_eq_of_lt (by omega) (by omega)
theorem gap_run {g : Int → Int} {G a : Int} (hG : 0 < G) (hd : G ∣ 27720) (ha : 0 ≤ a ∧ a < G) (hg : ∀ x : Int, 0 ≤ x → x < 27720 → (g x = 0 ↔ x % G ≠ a)) : ∀ k : Nat, (gpM g k).1 = (if (k : Int) ≤ a then (k : Int) else ((k : Int) - 1 - a) % G) ∧ (gpM g k).2 ≤ G - 1
  | 0 => by
    rw [if_pos (by omega)]
    exact ⟨rfl, by show (0 : Int) ≤ _; omega⟩
  | k + 1 => by
    obtain ⟨e1, e2⟩ := gap_run hG hd ha hg k
    have hx := hg ((k : Int) % 27720) (by omega) (by omega)
    rw [Int.emod_emod_of_dvd _ hd] at hx
    have key : (gpM g (k + 1)).1 = if ((k + 1 : Nat) : Int) ≤ a then ((k + 1 : Nat) : Int) else (((k + 1 : Nat) : Int) - 1 - a) % G := by
      rw [gpM]
      dsimp only
      have h3 : ((k + 1 : Nat) : Int) - 1 - a = (k : Int) - a := by omega
      rw [h3]
      have h4 : (k : Int) % G = a ↔ ((k : Int) - a) % G = 0 := by
        rw [← Int.emod_eq_emod_iff_emod_sub_eq_zero, Int.emod_eq_of_lt ha.1 ha.2]
      by_cases hk : (k : Int) < a
      · have h5 : (k : Int) % G = (k : Int) := Int.emod_eq_of_lt (by omega) (by omega)
        rw [if_pos (hx.mpr (by omega)), if_pos (by omega), e1, if_pos (by omega)]
        omega
      · rw [if_neg (show ¬ ((k + 1 : Nat) : Int) ≤ a by omega)]
        by_cases hm : (k : Int) % G = a
        · rw [if_neg (fun q => hx.mp q hm), h4.mp hm]
        · rw [if_pos (hx.mpr hm), e1]
          have h6 : ¬ ((k : Int) - a) % G = 0 := fun q => hm (h4.mpr q)
          have h7 : ¬ (k : Int) ≤ a := by
            intro q
            have : (k : Int) = a := by omega
            rw [this, Int.sub_self, Int.zero_emod] at h6
            exact h6 rfl
          rw [if_neg h7]
          have h8 := suc_mod (y := (k : Int) - 1 - a) hG
          rw [show (k : Int) - 1 - a + 1 = (k : Int) - a by omega] at h8
          by_cases h9 : ((k : Int) - 1 - a) % G + 1 = G
          · rw [if_pos h9] at h8
            exact absurd h8 h6
          · rw [if_neg h9] at h8
            exact h8.symm
    refine ⟨key, ?_⟩
    have hl : (gpM g (k + 1)).1 ≤ G - 1 := by
      rw [key]
      split
      · omega
      · have := Int.emod_lt_of_pos (((k + 1 : Nat) : Int) - 1 - a) hG
        omega
    have h2 : (gpM g (k + 1)).2 = max (gpM g k).2 (gpM g (k + 1)).1 := by
      rw [gpM]
    omega
theorem gap_all {g : Int → Int} {G a : Int} (hG : 0 < G) (hd : G ∣ 27720) (ha : 0 ≤ a ∧ a < G) (hg : ∀ x : Int, 0 ≤ x → x < 27720 → (g x = 0 ↔ x % G ≠ a)) : (gpM g 55440).2 = G - 1 := by
  have hle : G ≤ 27720 := Int.le_of_dvd (by decide) hd
  have e := (gap_run hG hd ha hg 55440).2
  have e1 := (gap_run hG hd ha hg (a + G).toNat).1
  rw [Int.toNat_of_nonneg (by omega), if_neg (by omega), show a + G - 1 - a = G - 1 by omega, Int.emod_eq_of_lt (by omega) (by omega)] at e1
  have e2 := gp_le (g := g) (a + G).toNat
  have e3 := gp_mono (g := g) (a := (a + G).toNat) (55440 - (a + G).toNat)
  rw [show (a + G).toNat + (55440 - (a + G).toNat) = 55440 by omega] at e3
  omega
theorem set_iff {p s x : Int} (hx : 0 ≤ x ∧ x < 27720) (h : ordF s ≤ 600) : (∃ i : Int, 0 ≤ i ∧ i < 600 ∧ (p + (i + 1) * s) % 27720 = x) ↔ x % gcdF s = p % gcdF s := by
  have hg := gcd_pos s
  have ho := ordF_R s
  constructor
  · rintro ⟨i, -, -, e⟩
    rw [← e, Int.emod_emod_of_dvd _ (gcd_dvd s)]
    obtain ⟨v, hv⟩ := gcd_dvd_r s
    have e3 : (i + 1) * s = (i + 1) * (gcdF s * v) := congrArg (fun z => (i + 1) * z) hv
    rw [e3, Int.mul_left_comm, Int.add_mul_emod_self_left]
  · intro q
    have q1 := Int.emod_eq_emod_iff_emod_sub_eq_zero.mp q
    obtain ⟨t, ht⟩ := Int.dvd_of_emod_eq_zero q1
    obtain ⟨u, v, e⟩ := bezF s
    have hm1 := Int.emod_nonneg (v * t - 1) (Int.ne_of_gt (show 0 < ordF s by omega))
    have hm2 := Int.emod_lt_of_pos (v * t - 1) (show 0 < ordF s by omega)
    have hd := Int.mul_ediv_add_emod (v * t - 1) (ordF s)
    refine ⟨(v * t - 1) % ordF s, hm1, by omega, ?_⟩
    have e1 : (v * t - 1) % ordF s + 1 = v * t + (-((v * t - 1) / ordF s)) * ordF s := by
      rw [Int.neg_mul, Int.mul_comm ((v * t - 1) / ordF s)]
      omega
    obtain ⟨w, hw⟩ := ord_dvd s
    have e2 : p + ((v * t - 1) % ordF s + 1) * s = x + 27720 * (-(u * t) + (-((v * t - 1) / ordF s)) * w) := by
      rw [e1, Int.add_mul, Int.mul_assoc _ (ordF s) s, hw]
      have e3 : x = p + gcdF s * t := by omega
      rw [e3, ← e, Int.add_mul, Int.mul_add, Int.mul_neg, Int.mul_left_comm _ 27720, show v * t * s = s * v * t by rw [Int.mul_comm (v * t), Int.mul_assoc], show (27720 : Int) * (u * t) = 27720 * u * t by rw [Int.mul_assoc]]
      omega
    rw [e2, Int.add_mul_emod_self_left]
    exact Int.emod_eq_of_lt hx.1 hx.2
/-- what is told of the single ray after 600 hits -/
theorem AI_gap {p s : Int} {y : FX} (h : AI p s 600 y) (ho : ordF s ≤ 600) : gapC y.2.2.1.2 y.2.2.1.1 = 27720 / ordF s - 1 := by
  obtain ⟨e1, e2, e3, e4, e5, e6, e7, e8, e9⟩ := h
  have hg := gcd_pos s
  have hR := ordF_R s
  have hN : ∀ i : Int, 0 ≤ i → i < ((600 : Nat) : Int) → 0 ≤ y.2.1.2.2 (i * 5 + 1) ∧ y.2.1.2.2 (i * 5 + 1) < 27720 := fun i a b => by
    rw [e7 i a b]
    omega
  have e := mark_gap (g := z0) e8 (by omega) hN
  have hc := e8.2.1 z0
  rw [e, ← hc, e9, if_neg (by omega)]
  have hdv : (27720 : Int) / ordF s = gcdF s := by
    have := ord_gcd s
    rw [Int.mul_comm] at this
    conv => lhs; rw [← this]
    exact Int.mul_ediv_cancel_left _ (by omega)
  rw [hdv]
  refine gap_all (a := p % gcdF s) hg (gcd_dvd s) ⟨Int.emod_nonneg _ (Int.ne_of_gt hg), Int.emod_lt_of_pos _ hg⟩ (fun x a b => ?_)
  have e10 := cv_has (N := y.2.1.2.2) (g := z0) ⟨a, b⟩ 600
  rw [show (((600 : Nat) : Int)).toNat = 600 from rfl]
  rw [Ne, ← set_iff ⟨a, b⟩ ho]
  constructor
  · rintro q ⟨i, i0, i1, i2⟩
    exact absurd q (e10.mpr ⟨i, i0, by omega, by rw [e7 i i0 (by omega)]; exact i2⟩)
  · intro q
    apply Decidable.byContradiction
    intro z
    obtain ⟨i, i0, i1, i2⟩ := e10.mp z
    rw [e7 i i0 i1] at i2
    exact q ⟨i, i0, by omega, i2⟩
