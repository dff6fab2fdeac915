/-! numbers: what the reference reckons with, in natural numbers -/
theorem nI_mul (a b : Nat) : nI a * nI b = nI (a * b) := (Int32.ofNat_mul a b).symm
theorem ix60 (m i : Nat) : (60 : Int32) * nI m + nI i = nI (60 * m + i) := by rw [show (60 : Int32) = nI 60 from rfl, nI_mul, nI_add]
theorem ix11 (m i : Nat) : (11 : Int32) * nI m + nI i = nI (11 * m + i) := by rw [show (11 : Int32) = nI 11 from rfl, nI_mul, nI_add]
theorem ix15 (m i : Nat) : (15 : Int32) * nI m + nI i = nI (15 * m + i) := by rw [show (15 : Int32) = nI 15 from rfl, nI_mul, nI_add]
theorem ix20 (m i : Nat) : (20 : Int32) * nI m + nI i = nI (20 * m + i) := by rw [show (20 : Int32) = nI 20 from rfl, nI_mul, nI_add]
theorem ix640 (m i : Nat) : (640 : Int32) * nI m + nI i = nI (640 * m + i) := by rw [show (640 : Int32) = nI 640 from rfl, nI_mul, nI_add]
theorem nI_sub {a b : Nat} (h : b ≤ a) : nI a - nI b = nI (a - b) := by
  have e : nI a = nI (a - b) + nI b := by rw [nI_add]; congr 1; omega
  rw [e, Int32.add_sub_cancel]
theorem nI_p1 {n : Nat} (h : n < 2 ^ 31) : (nI n - 1).toInt = (n : Int) - 1 := by
  cases n with
  | zero => decide
  | succ n => rw [nI_pred, nI_toInt (by omega)]; omega
theorem z_nat {a : Int32} {M : Nat} (h0 : 0 ≤ a.toInt) (h1 : a.toInt < M) (hM : M < 2 ^ 31) : ∃ m : Nat, m < M ∧ a = nI m := by
  refine ⟨a.toInt.toNat, by omega, Int32.toInt.inj ?_⟩
  rw [nI_toInt (by omega)]
  omega
theorem nI_neg1 {n : Nat} (h : n < 2 ^ 31) : ¬ nI n = -1 := by
  intro q
  have := congrArg Int32.toInt q
  rw [nI_toInt h] at this
  have h1 : (-1 : Int32).toInt = -1 := by decide
  omega
theorem nI_inj {a b : Nat} (h : nI a = nI b) (ha : a < 2 ^ 31) (hb : b < 2 ^ 31) : a = b := (nI_eq ha hb).mp h
theorem vn_1 : vp_nar .boolean 1 = 1 := by decide
theorem vn_0 : vp_nar .boolean 0 = 0 := by decide
theorem ms_s (S : MST) (k : Nat) (g : Nat → Int32) : ms S k g k = g := if_pos rfl
theorem ms_n (S : MST) {j k : Nat} (g : Nat → Int32) (h : j ≠ k) : ms S k g j = S j := if_neg h
theorem upd_s (f : Nat → Int32) (k : Nat) (x : Int32) : upd f k x k = x := if_pos rfl
theorem upd_n (f : Nat → Int32) {j k : Nat} (x : Int32) (h : j ≠ k) : upd f k x j = f j := if_neg h
theorem sp_in {v lo hi : Int64} {Post : Int32 → Prop} (h1 : v.toInt < lo.toInt ∨ hi.toInt < v.toInt → Post 0) (h2 : lo.toInt ≤ v.toInt → v.toInt ≤ hi.toInt → Post 1) : wp_X12_in v lo hi Post := by
  unfold wp_X12_in
  refine ⟨fun c => h1 (Or.inl ?_), fun c => ⟨fun c2 => h1 (Or.inr ?_), fun c2 => h2 ?_ ?_⟩⟩
  · exact Int64.lt_iff_toInt_lt.mp ((lg_cmp_lt _ _).mp c)
  · exact Int64.lt_iff_toInt_lt.mp ((lg_cmp_gt _ _).mp c2)
  · exact Int.not_lt.mp (fun q => c ((lg_cmp_lt v lo).mpr (Int64.lt_iff_toInt_lt.mpr q)))
  · exact Int.not_lt.mp (fun q => c2 ((lg_cmp_gt v hi).mpr (Int64.lt_iff_toInt_lt.mpr q)))
/-- 'in' of an int from 0 to n - 1 -/
theorem sp_in0 {a b : Int32} {n : Nat} {Post : Int32 → Prop} (hn : n < 2 ^ 31) (hb : b = nI n - 1) (h1 : (a.toInt < 0 ∨ (n : Int) ≤ a.toInt) → Post 0) (h2 : ∀ m : Nat, m < n → a = nI m → Post 1) : wp_X12_in (a : Int32).toInt64 0 (b : Int32).toInt64 Post := by
  have e0 : (0 : Int64).toInt = 0 := by decide
  have e1 : b.toInt = (n : Int) - 1 := by rw [hb]; exact nI_p1 hn
  refine sp_in (fun h => h1 ?_) (fun ha hc => ?_)
  · rw [Int32.toInt_toInt64, Int32.toInt_toInt64, e0, e1] at h
    omega
  · rw [Int32.toInt_toInt64, e0] at ha
    rw [Int32.toInt_toInt64, Int32.toInt_toInt64, e1] at hc
    obtain ⟨m, h3, h4⟩ := z_nat (M := n) ha (by omega) hn
    exact h2 m h3 h4
/-- .. and of written bounds -/
theorem sp_inL {a : Int32} {lo hi : Int64} {Post : Int32 → Prop} (h1 : (a.toInt < lo.toInt ∨ hi.toInt < a.toInt) → Post 0) (h2 : lo.toInt ≤ a.toInt → a.toInt ≤ hi.toInt → Post 1) : wp_X12_in (a : Int32).toInt64 lo hi Post :=
  sp_in (fun h => h1 (by rw [Int32.toInt_toInt64] at h; exact h)) (fun ha hb => h2 (by rw [Int32.toInt_toInt64] at ha; exact ha) (by rw [Int32.toInt_toInt64] at hb; exact hb))
theorem sp_isMethod {S : MST} {a : Int32} {M : Nat} {Post : Int32 → Prop} (hM : S 0 0 = nI M) (hM8 : M ≤ 8) (h1 : (a.toInt < 0 ∨ (M : Int) ≤ a.toInt) → Post 0) (h2 : ∀ m : Nat, m < M → a = nI m → Post 1) : wp_X12_isMethod S a Post := by
  unfold wp_X12_isMethod
  exact sp_in0 (n := M) (by omega) (by rw [hM]) (fun h => ⟨Or.inl rfl, h1 h⟩) (fun m h e => ⟨Or.inr rfl, h2 m h e⟩)
/-- what an op takes; of CALL, what its METHOD has as ARGS -/
def tkN (o ax : Nat) : Nat := if o = 0 ∨ o = 1 ∨ o = 9 ∨ o = 13 then 0 else if o = 11 then ax else if o = 17 ∨ (3 ≤ o ∧ o ≤ 8) then 2 else 1
def lyN (o : Nat) : Nat := if o = 2 ∨ o = 9 ∨ o = 10 ∨ o = 12 ∨ o = 14 ∨ o = 15 ∨ o = 17 ∨ o = 19 then 0 else if o = 18 then 2 else 1
theorem z20 {o : Nat} (h : o < 20) : o = 0 ∨ o = 1 ∨ o = 2 ∨ o = 3 ∨ o = 4 ∨ o = 5 ∨ o = 6 ∨ o = 7 ∨ o = 8 ∨ o = 9 ∨ o = 10 ∨ o = 11 ∨ o = 12 ∨ o = 13 ∨ o = 14 ∨ o = 15 ∨ o = 16 ∨ o = 17 ∨ o = 18 ∨ o = 19 := by omega
theorem sp_lays {o : Nat} (ho : o < 20) {Post : Int32 → Prop} (h : Post (nI (lyN o))) : wp_X12_lays (nI o) Post := by
  unfold wp_X12_lays
  rcases z20 ho with rfl | rfl | rfl | rfl | rfl | rfl | rfl | rfl | rfl | rfl | rfl | rfl | rfl | rfl | rfl | rfl | rfl | rfl | rfl | rfl <;>
    refine ⟨fun c => ?_, fun c => ?_, fun c => ?_, fun c => ?_, fun c => ?_, fun c => ?_, fun c => ?_, fun c => ?_, fun c => ?_, fun c => ?_, fun c => ?_, fun c => ?_, fun c => ?_, fun c => ?_, fun c => ?_, fun c => ?_, fun c => ?_, fun c => ?_, fun c => ?_⟩ <;>
    first | exact absurd c (by decide) | exact h
theorem sp_takes {S : MST} {o ax : Nat} {x : Int32} (ho : o < 20) (hx : o = 11 → ∃ y : Nat, y < 8 ∧ x = nI y ∧ S 1 y = nI ax) {Post : Int32 → Prop} (h : Post (nI (tkN o ax))) : wp_X12_takes S (nI o) x Post := by
  unfold wp_X12_takes wj_X12_takes_99
  rcases z20 ho with rfl | rfl | rfl | rfl | rfl | rfl | rfl | rfl | rfl | rfl | rfl | rfl | rfl | rfl | rfl | rfl | rfl | rfl | rfl | rfl <;>
    refine ⟨fun c => ?_, fun c => ?_, fun c => ?_, fun c => ?_, fun c => ?_, fun c => ?_, fun c => ?_, fun c => ?_, fun c => ?_, fun c => ?_, fun c => ?_, fun c => ?_, fun c => ?_, fun c => ?_, fun c => ?_, fun c => ?_, fun c => ?_, fun c => ?_, fun c => ?_⟩ <;>
    first
      | exact absurd c (by decide)
      | exact h
      | exact ⟨fun c => by first | exact absurd c (by decide) | exact h, fun c => by first | exact absurd c (by decide) | exact ⟨fun c => by first | exact absurd c (by decide) | exact h, fun c => by first | exact absurd c (by decide) | exact h⟩⟩
      | (obtain ⟨y, h1, h2, h3⟩ := hx rfl
         subst h2
         rw [nI_clamp (by omega), h3]
         exact ⟨vp_in_nI h1 (by omega), h⟩)
