/-! what the class makes: codes -/
theorem TH.mono {op d : Int32} {A B : Nat → Prop} (h : TH op d A) (hAB : ∀ k : Nat, A k → B k) : TH op d B :=
  ⟨fun q => by obtain ⟨k, a, b, c⟩ := h.1 q; exact ⟨k, a, hAB k b, c⟩, fun q => by obtain ⟨k, a, b, c⟩ := h.2 q; exact ⟨k, a, hAB k b, c⟩⟩
/-- a code was made: number C, with GUARDS on things of A alone -/
def MkO (A : Nat → Prop) (S S' : CST) (C : Nat) (making : Int32) : Prop := S'.2 = (cnP S, cnC S + 1) ∧ C = cnC S ∧ (∀ k c : Nat, ¬ (c = cnC S ∧ 320 ≤ k) → cv S' k c = cv S k c) ∧ CodO S' C ∧ cv S' 320 C 0 = making ∧ ∀ t : Nat, t < 11 → GdC S' C t → A t
theorem zmx_nI {n : Nat} (h : n < 2 ^ 31) : zmx (nI n) = nI n := if_neg (nI_nn n h)
theorem sp_X3_finish {S : CST} {A : Nat → Prop} {a1 a2 a3 : Int32} {n3 : Nat} {Post : CST → Nat → Prop} (hw : Wid S) (hc : cnC S < 104) (hd : DrO A S) (h3 : a3 = nI n3) (h60 : n3 ≤ 60) (h : ∀ (S' : CST) (r : Nat), MkO A S S' r a1 → Post S' r) : wp_X3_finish S a1 a2 a3 Post := by
  obtain ⟨n, hn, hn2, hh⟩ := hd
  have e5 : (5 : Int32) * zmx (cv S 72 0 0) = nI (5 * n) := by rw [hn, zmx_nI (by omega), nI5]
  have e3 : zmx a3 = nI n3 := by rw [h3, zmx_nI (by omega)]
  have goal : Wid S ∧ cnC S < 104 ∧ ¬ 5 * zmx (cv S 72 0 0) < 0 ∧ (5 * zmx (cv S 72 0 0)).toNatClampNeg ≤ 7555 ∧ ¬ zmx a3 < 0 ∧ (zmx a3).toNatClampNeg ≤ 60 ∧ ∀ f1 f2 : Nat → Int32, (∀ j : Nat, j < (5 * zmx (cv S 72 0 0)).toNatClampNeg → f1 j = if j < 7555 then cv S 80 0 j else 0) → (∀ j : Nat, j < (zmx a3).toNatClampNeg → f2 j = if j < 60 then cv S 90 0 j else 0) → Post (addC S a1 a2 (5 * zmx (cv S 72 0 0)) (zmx a3) f1 f2) (cnC S) := by
    rw [e5, e3, nI_clamp (by omega), nI_clamp (by omega)]
    refine ⟨hw, hc, nI_nn _ (by omega), by omega, nI_nn _ (by omega), h60, fun f1 f2 hf1 hf2 => ?_⟩
    obtain ⟨S', hS'⟩ : ∃ z, z = addC S a1 a2 (nI (5 * n)) (nI n3) f1 f2 := ⟨_, rfl⟩
    have hv : ∀ x : Nat, 320 ≤ x → cv S' x (cnC S) = (if x = 320 then fun _ => a1 else if x = 321 then fun _ => a2 else if x = 330 then f1 else if x = 339 then fun _ => nI (5 * n) else if x = 340 then f2 else if x = 349 then fun _ => nI n3 else fun _ => 0) := fun x hx => by rw [hS']; exact if_pos ⟨rfl, hx⟩
    have v339 : cv S' 339 (cnC S) 0 = nI (5 * n) := by rw [hv 339 (by decide)]; rfl
    have v330 : cv S' 330 (cnC S) = f1 := by rw [hv 330 (by decide)]; rfl
    have v349 : cv S' 349 (cnC S) 0 = nI n3 := by rw [hv 349 (by decide)]; rfl
    have th : ∀ p m : Nat, cv S' 339 (cnC S) 0 = nI m → m ≤ 7555 → 5 * p + 4 < m → TH (cv S' 330 (cnC S) (5 * p)) (cv S' 330 (cnC S) (5 * p + 1)) A := by
      intro p m hm hm2 hp
      rw [v339] at hm
      obtain rfl : 5 * n = m := nI_inj hm (by omega) (by omega)
      rw [v330, hf1 _ (by omega), hf1 _ (by omega), if_pos (by omega), if_pos (by omega)]
      exact hh p (by omega)
    rw [← hS']
    refine h S' _ ⟨by rw [hS']; rfl, rfl, fun k c hkc => by rw [hS']; exact if_neg hkc, ⟨⟨5 * n, n3, v339, by omega, v349, h60⟩, fun p m hm hm2 hp => (th p m hm hm2 hp).mono (fun _ _ => trivial)⟩, by rw [hv 320 (by decide)]; rfl, fun t ht hg => ?_⟩
    obtain ⟨p, m, hm, hm2, hp, hcase⟩ := hg
    have q := th p m hm hm2 hp
    rcases hcase with ⟨ho, hd⟩ | ⟨ho, hd⟩
    · obtain ⟨k, k1, k2, k3⟩ := q.1 ho
      rw [hd] at k3
      obtain rfl : t = k := nI_inj k3 (by omega) (by omega)
      exact k2
    · obtain ⟨k, k1, k2, k3⟩ := q.2 ho
      rw [hd] at k3
      obtain rfl : t = k := nI_inj k3 (by omega) (by omega)
      exact k2
  exact goal
