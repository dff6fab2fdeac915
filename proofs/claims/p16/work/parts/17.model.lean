def wj_X12_goesByPart_649 (S_649 : MST) (x649_8 : Int32) (x649_9 : Int32) (Post : MST → Prop) : Prop :=
  (((x649_9 : Int32) = 0) → (Post S_649)) ∧ ((¬ ((x649_9 : Int32) = 0)) → (wp_X12_traps S_649 x649_9 x649_8 (fun S2 => Post S2)))
def wj_X12_goesByPart_573 (S_573 : MST) (x573_3 : Int32) (x573_4 : Int32) (x573_5 : Int32) (x573_6 : Int32) (x573_7 : Int32) (x573_8 : Int32) (Post : MST → Prop) : Prop :=
  vp_in x573_3 61440 ∧ (((¬ (((S_573 25 (x573_3 : Int32).toNatClampNeg) : Int32) = 5)) → (vp_in x573_3 61440 ∧ (vp_in (x573_4 + x573_6) 240 ∧ (vp_in (x573_4 + x573_7) 240 ∧ (wp_X12_sumOf ((S_573 25 (x573_3 : Int32).toNatClampNeg) + 1) (S_573 42 (x573_4 + x573_6 : Int32).toNatClampNeg) (S_573 42 (x573_4 + x573_7 : Int32).toNatClampNeg) (fun r8 => vp_in (x573_4 + x573_5) 240 ∧ (∀ S9 : MST, S9 = ms S_573 42 (upd (S_573 42) (x573_4 + x573_5 : Int32).toNatClampNeg r8) → (wj_X12_goesByPart_649 S9 x573_8 0 Post)))))))) ∧ ((((S_573 25 (x573_3 : Int32).toNatClampNeg) : Int32) = 5) → (vp_in (x573_4 + x573_7) 240 ∧ (((¬ (((S_573 42 (x573_4 + x573_7 : Int32).toNatClampNeg) : Int32) = 0)) → (vp_in x573_3 61440 ∧ (vp_in (x573_4 + x573_6) 240 ∧ (vp_in (x573_4 + x573_7) 240 ∧ (wp_X12_sumOf ((S_573 25 (x573_3 : Int32).toNatClampNeg) + 1) (S_573 42 (x573_4 + x573_6 : Int32).toNatClampNeg) (S_573 42 (x573_4 + x573_7 : Int32).toNatClampNeg) (fun r15 => vp_in (x573_4 + x573_5) 240 ∧ (∀ S16 : MST, S16 = ms S_573 42 (upd (S_573 42) (x573_4 + x573_5 : Int32).toNatClampNeg r15) → (wj_X12_goesByPart_649 S16 x573_8 0 Post)))))))) ∧ ((((S_573 42 (x573_4 + x573_7 : Int32).toNatClampNeg) : Int32) = 0) → (wj_X12_goesByPart_649 S_573 x573_8 1 Post))))))
def wp_X12_goesByPart (S : MST) (Post : MST → Prop) : Prop :=
  vp_in ((S 37 0) - 1) 16 ∧ (vp_in ((S 37 0) - 1) 16 ∧ (vp_in ((640 * (S 40 ((S 37 0) - 1 : Int32).toNatClampNeg)) + (S 39 ((S 37 0) - 1 : Int32).toNatClampNeg)) 61440 ∧ (vp_in ((640 * (S 40 ((S 37 0) - 1 : Int32).toNatClampNeg)) + (S 39 ((S 37 0) - 1 : Int32).toNatClampNeg)) 61440 ∧ (vp_in ((640 * (S 40 ((S 37 0) - 1 : Int32).toNatClampNeg)) + (S 39 ((S 37 0) - 1 : Int32).toNatClampNeg)) 61440 ∧ (vp_in ((640 * (S 40 ((S 37 0) - 1 : Int32).toNatClampNeg)) + (S 39 ((S 37 0) - 1 : Int32).toNatClampNeg)) 61440 ∧ (vp_in ((S 37 0) - 1) 16 ∧ (∀ S23 : MST, S23 = ms S 39 (upd (S 39) ((S 37 0) - 1 : Int32).toNatClampNeg ((S 39 ((S 37 0) - 1 : Int32).toNatClampNeg) + 1)) → (vp_in ((640 * (S 40 ((S 37 0) - 1 : Int32).toNatClampNeg)) + (S 39 ((S 37 0) - 1 : Int32).toNatClampNeg)) 61440 ∧ (((S23 25 ((640 * (S 40 ((S 37 0) - 1 : Int32).toNatClampNeg)) + (S 39 ((S 37 0) - 1 : Int32).toNatClampNeg) : Int32).toNatClampNeg : Int32).toInt < 0 ∨ 18 < (S23 25 ((640 * (S 40 ((S 37 0) - 1 : Int32).toNatClampNeg)) + (S 39 ((S 37 0) - 1 : Int32).toNatClampNeg) : Int32).toNatClampNeg : Int32).toInt → (wj_X12_goesByPart_573 S23 ((640 * (S 40 ((S 37 0) - 1 : Int32).toNatClampNeg)) + (S 39 ((S 37 0) - 1 : Int32).toNatClampNeg)) (15 * ((S 37 0) - 1)) (S 26 ((640 * (S 40 ((S 37 0) - 1 : Int32).toNatClampNeg)) + (S 39 ((S 37 0) - 1 : Int32).toNatClampNeg) : Int32).toNatClampNeg) (S 27 ((640 * (S 40 ((S 37 0) - 1 : Int32).toNatClampNeg)) + (S 39 ((S 37 0) - 1 : Int32).toNatClampNeg) : Int32).toNatClampNeg) (S 28 ((640 * (S 40 ((S 37 0) - 1 : Int32).toNatClampNeg)) + (S 39 ((S 37 0) - 1 : Int32).toNatClampNeg) : Int32).toNatClampNeg) (S 29 ((640 * (S 40 ((S 37 0) - 1 : Int32).toNatClampNeg)) + (S 39 ((S 37 0) - 1 : Int32).toNatClampNeg) : Int32).toNatClampNeg) Post)) ∧ ((S23 25 ((640 * (S 40 ((S 37 0) - 1 : Int32).toNatClampNeg)) + (S 39 ((S 37 0) - 1 : Int32).toNatClampNeg) : Int32).toNatClampNeg) = 0 → (vp_in ((15 * ((S 37 0) - 1)) + (S 26 ((640 * (S 40 ((S 37 0) - 1 : Int32).toNatClampNeg)) + (S 39 ((S 37 0) - 1 : Int32).toNatClampNeg) : Int32).toNatClampNeg)) 240 ∧ (∀ S25 : MST, S25 = ms S23 42 (upd (S23 42) ((15 * ((S 37 0) - 1)) + (S 26 ((640 * (S 40 ((S 37 0) - 1 : Int32).toNatClampNeg)) + (S 39 ((S 37 0) - 1 : Int32).toNatClampNeg) : Int32).toNatClampNeg) : Int32).toNatClampNeg (S 27 ((640 * (S 40 ((S 37 0) - 1 : Int32).toNatClampNeg)) + (S 39 ((S 37 0) - 1 : Int32).toNatClampNeg) : Int32).toNatClampNeg)) → (wj_X12_goesByPart_649 S25 (S 29 ((640 * (S 40 ((S 37 0) - 1 : Int32).toNatClampNeg)) + (S 39 ((S 37 0) - 1 : Int32).toNatClampNeg) : Int32).toNatClampNeg) 0 Post)))) ∧ ((S23 25 ((640 * (S 40 ((S 37 0) - 1 : Int32).toNatClampNeg)) + (S 39 ((S 37 0) - 1 : Int32).toNatClampNeg) : Int32).toNatClampNeg) = 1 → (vp_in ((15 * ((S 37 0) - 1)) + (S 27 ((640 * (S 40 ((S 37 0) - 1 : Int32).toNatClampNeg)) + (S 39 ((S 37 0) - 1 : Int32).toNatClampNeg) : Int32).toNatClampNeg)) 240 ∧ (vp_in ((15 * ((S 37 0) - 1)) + (S 26 ((640 * (S 40 ((S 37 0) - 1 : Int32).toNatClampNeg)) + (S 39 ((S 37 0) - 1 : Int32).toNatClampNeg) : Int32).toNatClampNeg)) 240 ∧ (∀ S27 : MST, S27 = ms S23 42 (upd (S23 42) ((15 * ((S 37 0) - 1)) + (S 26 ((640 * (S 40 ((S 37 0) - 1 : Int32).toNatClampNeg)) + (S 39 ((S 37 0) - 1 : Int32).toNatClampNeg) : Int32).toNatClampNeg) : Int32).toNatClampNeg (S23 42 ((15 * ((S 37 0) - 1)) + (S 27 ((640 * (S 40 ((S 37 0) - 1 : Int32).toNatClampNeg)) + (S 39 ((S 37 0) - 1 : Int32).toNatClampNeg) : Int32).toNatClampNeg) : Int32).toNatClampNeg)) → (wj_X12_goesByPart_649 S27 (S 29 ((640 * (S 40 ((S 37 0) - 1 : Int32).toNatClampNeg)) + (S 39 ((S 37 0) - 1 : Int32).toNatClampNeg) : Int32).toNatClampNeg) 0 Post))))) ∧ ((S23 25 ((640 * (S 40 ((S 37 0) - 1 : Int32).toNatClampNeg)) + (S 39 ((S 37 0) - 1 : Int32).toNatClampNeg) : Int32).toNatClampNeg) = 2 → (wj_X12_goesByPart_573 S23 ((640 * (S 40 ((S 37 0) - 1 : Int32).toNatClampNeg)) + (S 39 ((S 37 0) - 1 : Int32).toNatClampNeg)) (15 * ((S 37 0) - 1)) (S 26 ((640 * (S 40 ((S 37 0) - 1 : Int32).toNatClampNeg)) + (S 39 ((S 37 0) - 1 : Int32).toNatClampNeg) : Int32).toNatClampNeg) (S 27 ((640 * (S 40 ((S 37 0) - 1 : Int32).toNatClampNeg)) + (S 39 ((S 37 0) - 1 : Int32).toNatClampNeg) : Int32).toNatClampNeg) (S 28 ((640 * (S 40 ((S 37 0) - 1 : Int32).toNatClampNeg)) + (S 39 ((S 37 0) - 1 : Int32).toNatClampNeg) : Int32).toNatClampNeg) (S 29 ((640 * (S 40 ((S 37 0) - 1 : Int32).toNatClampNeg)) + (S 39 ((S 37 0) - 1 : Int32).toNatClampNeg) : Int32).toNatClampNeg) Post)) ∧ ((S23 25 ((640 * (S 40 ((S 37 0) - 1 : Int32).toNatClampNeg)) + (S 39 ((S 37 0) - 1 : Int32).toNatClampNeg) : Int32).toNatClampNeg) = 3 → (wj_X12_goesByPart_573 S23 ((640 * (S 40 ((S 37 0) - 1 : Int32).toNatClampNeg)) + (S 39 ((S 37 0) - 1 : Int32).toNatClampNeg)) (15 * ((S 37 0) - 1)) (S 26 ((640 * (S 40 ((S 37 0) - 1 : Int32).toNatClampNeg)) + (S 39 ((S 37 0) - 1 : Int32).toNatClampNeg) : Int32).toNatClampNeg) (S 27 ((640 * (S 40 ((S 37 0) - 1 : Int32).toNatClampNeg)) + (S 39 ((S 37 0) - 1 : Int32).toNatClampNeg) : Int32).toNatClampNeg) (S 28 ((640 * (S 40 ((S 37 0) - 1 : Int32).toNatClampNeg)) + (S 39 ((S 37 0) - 1 : Int32).toNatClampNeg) : Int32).toNatClampNeg) (S 29 ((640 * (S 40 ((S 37 0) - 1 : Int32).toNatClampNeg)) + (S 39 ((S 37 0) - 1 : Int32).toNatClampNeg) : Int32).toNatClampNeg) Post)) ∧ ((S23 25 ((640 * (S 40 ((S 37 0) - 1 : Int32).toNatClampNeg)) + (S 39 ((S 37 0) - 1 : Int32).toNatClampNeg) : Int32).toNatClampNeg) = 4 → (wj_X12_goesByPart_573 S23 ((640 * (S 40 ((S 37 0) - 1 : Int32).toNatClampNeg)) + (S 39 ((S 37 0) - 1 : Int32).toNatClampNeg)) (15 * ((S 37 0) - 1)) (S 26 ((640 * (S 40 ((S 37 0) - 1 : Int32).toNatClampNeg)) + (S 39 ((S 37 0) - 1 : Int32).toNatClampNeg) : Int32).toNatClampNeg) (S 27 ((640 * (S 40 ((S 37 0) - 1 : Int32).toNatClampNeg)) + (S 39 ((S 37 0) - 1 : Int32).toNatClampNeg) : Int32).toNatClampNeg) (S 28 ((640 * (S 40 ((S 37 0) - 1 : Int32).toNatClampNeg)) + (S 39 ((S 37 0) - 1 : Int32).toNatClampNeg) : Int32).toNatClampNeg) (S 29 ((640 * (S 40 ((S 37 0) - 1 : Int32).toNatClampNeg)) + (S 39 ((S 37 0) - 1 : Int32).toNatClampNeg) : Int32).toNatClampNeg) Post)) ∧ ((S23 25 ((640 * (S 40 ((S 37 0) - 1 : Int32).toNatClampNeg)) + (S 39 ((S 37 0) - 1 : Int32).toNatClampNeg) : Int32).toNatClampNeg) = 5 → (wj_X12_goesByPart_573 S23 ((640 * (S 40 ((S 37 0) - 1 : Int32).toNatClampNeg)) + (S 39 ((S 37 0) - 1 : Int32).toNatClampNeg)) (15 * ((S 37 0) - 1)) (S 26 ((640 * (S 40 ((S 37 0) - 1 : Int32).toNatClampNeg)) + (S 39 ((S 37 0) - 1 : Int32).toNatClampNeg) : Int32).toNatClampNeg) (S 27 ((640 * (S 40 ((S 37 0) - 1 : Int32).toNatClampNeg)) + (S 39 ((S 37 0) - 1 : Int32).toNatClampNeg) : Int32).toNatClampNeg) (S 28 ((640 * (S 40 ((S 37 0) - 1 : Int32).toNatClampNeg)) + (S 39 ((S 37 0) - 1 : Int32).toNatClampNeg) : Int32).toNatClampNeg) (S 29 ((640 * (S 40 ((S 37 0) - 1 : Int32).toNatClampNeg)) + (S 39 ((S 37 0) - 1 : Int32).toNatClampNeg) : Int32).toNatClampNeg) Post)) ∧ ((S23 25 ((640 * (S 40 ((S 37 0) - 1 : Int32).toNatClampNeg)) + (S 39 ((S 37 0) - 1 : Int32).toNatClampNeg) : Int32).toNatClampNeg) = 6 → (wj_X12_goesByPart_573 S23 ((640 * (S 40 ((S 37 0) - 1 : Int32).toNatClampNeg)) + (S 39 ((S 37 0) - 1 : Int32).toNatClampNeg)) (15 * ((S 37 0) - 1)) (S 26 ((640 * (S 40 ((S 37 0) - 1 : Int32).toNatClampNeg)) + (S 39 ((S 37 0) - 1 : Int32).toNatClampNeg) : Int32).toNatClampNeg) (S 27 ((640 * (S 40 ((S 37 0) - 1 : Int32).toNatClampNeg)) + (S 39 ((S 37 0) - 1 : Int32).toNatClampNeg) : Int32).toNatClampNeg) (S 28 ((640 * (S 40 ((S 37 0) - 1 : Int32).toNatClampNeg)) + (S 39 ((S 37 0) - 1 : Int32).toNatClampNeg) : Int32).toNatClampNeg) (S 29 ((640 * (S 40 ((S 37 0) - 1 : Int32).toNatClampNeg)) + (S 39 ((S 37 0) - 1 : Int32).toNatClampNeg) : Int32).toNatClampNeg) Post)) ∧ ((S23 25 ((640 * (S 40 ((S 37 0) - 1 : Int32).toNatClampNeg)) + (S 39 ((S 37 0) - 1 : Int32).toNatClampNeg) : Int32).toNatClampNeg) = 7 → (wj_X12_goesByPart_573 S23 ((640 * (S 40 ((S 37 0) - 1 : Int32).toNatClampNeg)) + (S 39 ((S 37 0) - 1 : Int32).toNatClampNeg)) (15 * ((S 37 0) - 1)) (S 26 ((640 * (S 40 ((S 37 0) - 1 : Int32).toNatClampNeg)) + (S 39 ((S 37 0) - 1 : Int32).toNatClampNeg) : Int32).toNatClampNeg) (S 27 ((640 * (S 40 ((S 37 0) - 1 : Int32).toNatClampNeg)) + (S 39 ((S 37 0) - 1 : Int32).toNatClampNeg) : Int32).toNatClampNeg) (S 28 ((640 * (S 40 ((S 37 0) - 1 : Int32).toNatClampNeg)) + (S 39 ((S 37 0) - 1 : Int32).toNatClampNeg) : Int32).toNatClampNeg) (S 29 ((640 * (S 40 ((S 37 0) - 1 : Int32).toNatClampNeg)) + (S 39 ((S 37 0) - 1 : Int32).toNatClampNeg) : Int32).toNatClampNeg) Post)) ∧ ((S23 25 ((640 * (S 40 ((S 37 0) - 1 : Int32).toNatClampNeg)) + (S 39 ((S 37 0) - 1 : Int32).toNatClampNeg) : Int32).toNatClampNeg) = 8 → ((((S 29 ((640 * (S 40 ((S 37 0) - 1 : Int32).toNatClampNeg)) + (S 39 ((S 37 0) - 1 : Int32).toNatClampNeg) : Int32).toNatClampNeg) < (S 26 ((640 * (S 40 ((S 37 0) - 1 : Int32).toNatClampNeg)) + (S 39 ((S 37 0) - 1 : Int32).toNatClampNeg) : Int32).toNatClampNeg)) → (vp_in ((S 37 0) - 1) 16 ∧ (vp_in ((60 * (S23 40 ((S 37 0) - 1 : Int32).toNatClampNeg)) + (S 26 ((640 * (S 40 ((S 37 0) - 1 : Int32).toNatClampNeg)) + (S 39 ((S 37 0) - 1 : Int32).toNatClampNeg) : Int32).toNatClampNeg)) 5760 ∧ (vp_in ((S 37 0) - 1) 16 ∧ (∀ S31 : MST, S31 = ms S23 39 (upd (S23 39) ((S 37 0) - 1 : Int32).toNatClampNeg (S23 24 ((60 * (S23 40 ((S 37 0) - 1 : Int32).toNatClampNeg)) + (S 26 ((640 * (S 40 ((S 37 0) - 1 : Int32).toNatClampNeg)) + (S 39 ((S 37 0) - 1 : Int32).toNatClampNeg) : Int32).toNatClampNeg) : Int32).toNatClampNeg)) → (wj_X12_goesByPart_649 S31 (S 29 ((640 * (S 40 ((S 37 0) - 1 : Int32).toNatClampNeg)) + (S 39 ((S 37 0) - 1 : Int32).toNatClampNeg) : Int32).toNatClampNeg) 0 Post)))))) ∧ ((¬ ((S 29 ((640 * (S 40 ((S 37 0) - 1 : Int32).toNatClampNeg)) + (S 39 ((S 37 0) - 1 : Int32).toNatClampNeg) : Int32).toNatClampNeg) < (S 26 ((640 * (S 40 ((S 37 0) - 1 : Int32).toNatClampNeg)) + (S 39 ((S 37 0) - 1 : Int32).toNatClampNeg) : Int32).toNatClampNeg))) → (wp_X12_stepOn S23  (fun S32 r32 => (((r32 : Int32) = 0) → (wj_X12_goesByPart_649 S32 (S 29 ((640 * (S 40 ((S 37 0) - 1 : Int32).toNatClampNeg)) + (S 39 ((S 37 0) - 1 : Int32).toNatClampNeg) : Int32).toNatClampNeg) 0 Post)) ∧ ((¬ ((r32 : Int32) = 0)) → (vp_in ((S 37 0) - 1) 16 ∧ (vp_in ((60 * (S32 40 ((S 37 0) - 1 : Int32).toNatClampNeg)) + (S 26 ((640 * (S 40 ((S 37 0) - 1 : Int32).toNatClampNeg)) + (S 39 ((S 37 0) - 1 : Int32).toNatClampNeg) : Int32).toNatClampNeg)) 5760 ∧ (vp_in ((S 37 0) - 1) 16 ∧ (∀ S36 : MST, S36 = ms S32 39 (upd (S32 39) ((S 37 0) - 1 : Int32).toNatClampNeg (S32 24 ((60 * (S32 40 ((S 37 0) - 1 : Int32).toNatClampNeg)) + (S 26 ((640 * (S 40 ((S 37 0) - 1 : Int32).toNatClampNeg)) + (S 39 ((S 37 0) - 1 : Int32).toNatClampNeg) : Int32).toNatClampNeg) : Int32).toNatClampNeg)) → (wj_X12_goesByPart_649 S36 (S 29 ((640 * (S 40 ((S 37 0) - 1 : Int32).toNatClampNeg)) + (S 39 ((S 37 0) - 1 : Int32).toNatClampNeg) : Int32).toNatClampNeg) 0 Post))))))))))) ∧ ((S23 25 ((640 * (S 40 ((S 37 0) - 1 : Int32).toNatClampNeg)) + (S 39 ((S 37 0) - 1 : Int32).toNatClampNeg) : Int32).toNatClampNeg) = 9 → (vp_in ((15 * ((S 37 0) - 1)) + (S 27 ((640 * (S 40 ((S 37 0) - 1 : Int32).toNatClampNeg)) + (S 39 ((S 37 0) - 1 : Int32).toNatClampNeg) : Int32).toNatClampNeg)) 240 ∧ (((¬ (((S23 42 ((15 * ((S 37 0) - 1)) + (S 27 ((640 * (S 40 ((S 37 0) - 1 : Int32).toNatClampNeg)) + (S 39 ((S 37 0) - 1 : Int32).toNatClampNeg) : Int32).toNatClampNeg) : Int32).toNatClampNeg) : Int32) = 0)) → (wj_X12_goesByPart_649 S23 (S 29 ((640 * (S 40 ((S 37 0) - 1 : Int32).toNatClampNeg)) + (S 39 ((S 37 0) - 1 : Int32).toNatClampNeg) : Int32).toNatClampNeg) 0 Post)) ∧ ((((S23 42 ((15 * ((S 37 0) - 1)) + (S 27 ((640 * (S 40 ((S 37 0) - 1 : Int32).toNatClampNeg)) + (S 39 ((S 37 0) - 1 : Int32).toNatClampNeg) : Int32).toNatClampNeg) : Int32).toNatClampNeg) : Int32) = 0) → ((((S 29 ((640 * (S 40 ((S 37 0) - 1 : Int32).toNatClampNeg)) + (S 39 ((S 37 0) - 1 : Int32).toNatClampNeg) : Int32).toNatClampNeg) < (S 26 ((640 * (S 40 ((S 37 0) - 1 : Int32).toNatClampNeg)) + (S 39 ((S 37 0) - 1 : Int32).toNatClampNeg) : Int32).toNatClampNeg)) → (vp_in ((S 37 0) - 1) 16 ∧ (vp_in ((60 * (S23 40 ((S 37 0) - 1 : Int32).toNatClampNeg)) + (S 26 ((640 * (S 40 ((S 37 0) - 1 : Int32).toNatClampNeg)) + (S 39 ((S 37 0) - 1 : Int32).toNatClampNeg) : Int32).toNatClampNeg)) 5760 ∧ (vp_in ((S 37 0) - 1) 16 ∧ (∀ S42 : MST, S42 = ms S23 39 (upd (S23 39) ((S 37 0) - 1 : Int32).toNatClampNeg (S23 24 ((60 * (S23 40 ((S 37 0) - 1 : Int32).toNatClampNeg)) + (S 26 ((640 * (S 40 ((S 37 0) - 1 : Int32).toNatClampNeg)) + (S 39 ((S 37 0) - 1 : Int32).toNatClampNeg) : Int32).toNatClampNeg) : Int32).toNatClampNeg)) → (wj_X12_goesByPart_649 S42 (S 29 ((640 * (S 40 ((S 37 0) - 1 : Int32).toNatClampNeg)) + (S 39 ((S 37 0) - 1 : Int32).toNatClampNeg) : Int32).toNatClampNeg) 0 Post)))))) ∧ ((¬ ((S 29 ((640 * (S 40 ((S 37 0) - 1 : Int32).toNatClampNeg)) + (S 39 ((S 37 0) - 1 : Int32).toNatClampNeg) : Int32).toNatClampNeg) < (S 26 ((640 * (S 40 ((S 37 0) - 1 : Int32).toNatClampNeg)) + (S 39 ((S 37 0) - 1 : Int32).toNatClampNeg) : Int32).toNatClampNeg))) → (wp_X12_stepOn S23  (fun S43 r43 => (((r43 : Int32) = 0) → (wj_X12_goesByPart_649 S43 (S 29 ((640 * (S 40 ((S 37 0) - 1 : Int32).toNatClampNeg)) + (S 39 ((S 37 0) - 1 : Int32).toNatClampNeg) : Int32).toNatClampNeg) 0 Post)) ∧ ((¬ ((r43 : Int32) = 0)) → (vp_in ((S 37 0) - 1) 16 ∧ (vp_in ((60 * (S43 40 ((S 37 0) - 1 : Int32).toNatClampNeg)) + (S 26 ((640 * (S 40 ((S 37 0) - 1 : Int32).toNatClampNeg)) + (S 39 ((S 37 0) - 1 : Int32).toNatClampNeg) : Int32).toNatClampNeg)) 5760 ∧ (vp_in ((S 37 0) - 1) 16 ∧ (∀ S47 : MST, S47 = ms S43 39 (upd (S43 39) ((S 37 0) - 1 : Int32).toNatClampNeg (S43 24 ((60 * (S43 40 ((S 37 0) - 1 : Int32).toNatClampNeg)) + (S 26 ((640 * (S 40 ((S 37 0) - 1 : Int32).toNatClampNeg)) + (S 39 ((S 37 0) - 1 : Int32).toNatClampNeg) : Int32).toNatClampNeg) : Int32).toNatClampNeg)) → (wj_X12_goesByPart_649 S47 (S 29 ((640 * (S 40 ((S 37 0) - 1 : Int32).toNatClampNeg)) + (S 39 ((S 37 0) - 1 : Int32).toNatClampNeg) : Int32).toNatClampNeg) 0 Post)))))))))))))) ∧ ((S23 25 ((640 * (S 40 ((S 37 0) - 1 : Int32).toNatClampNeg)) + (S 39 ((S 37 0) - 1 : Int32).toNatClampNeg) : Int32).toNatClampNeg) = 10 → (vp_in ((S 37 0) - 1) 16 ∧ (∀ S48 : MST, S48 = ms S23 39 (upd (S23 39) ((S 37 0) - 1 : Int32).toNatClampNeg (S 39 ((S 37 0) - 1 : Int32).toNatClampNeg)) → (wp_X12_call_r S48 (S 27 ((640 * (S 40 ((S 37 0) - 1 : Int32).toNatClampNeg)) + (S 39 ((S 37 0) - 1 : Int32).toNatClampNeg) : Int32).toNatClampNeg) ((15 * ((S 37 0) - 1)) + (S 26 ((640 * (S 40 ((S 37 0) - 1 : Int32).toNatClampNeg)) + (S 39 ((S 37 0) - 1 : Int32).toNatClampNeg) : Int32).toNatClampNeg)) (S 29 ((640 * (S 40 ((S 37 0) - 1 : Int32).toNatClampNeg)) + (S 39 ((S 37 0) - 1 : Int32).toNatClampNeg) : Int32).toNatClampNeg) (fun S49 => wj_X12_goesByPart_649 S49 (S 29 ((640 * (S 40 ((S 37 0) - 1 : Int32).toNatClampNeg)) + (S 39 ((S 37 0) - 1 : Int32).toNatClampNeg) : Int32).toNatClampNeg) 0 Post))))) ∧ ((S23 25 ((640 * (S 40 ((S 37 0) - 1 : Int32).toNatClampNeg)) + (S 39 ((S 37 0) - 1 : Int32).toNatClampNeg) : Int32).toNatClampNeg) = 11 → (vp_in ((15 * ((S 37 0) - 1)) + (S 27 ((640 * (S 40 ((S 37 0) - 1 : Int32).toNatClampNeg)) + (S 39 ((S 37 0) - 1 : Int32).toNatClampNeg) : Int32).toNatClampNeg)) 240 ∧ (wp_X12_returns S23 (S23 42 ((15 * ((S 37 0) - 1)) + (S 27 ((640 * (S 40 ((S 37 0) - 1 : Int32).toNatClampNeg)) + (S 39 ((S 37 0) - 1 : Int32).toNatClampNeg) : Int32).toNatClampNeg) : Int32).toNatClampNeg) (fun S51 => wj_X12_goesByPart_649 S51 (S 29 ((640 * (S 40 ((S 37 0) - 1 : Int32).toNatClampNeg)) + (S 39 ((S 37 0) - 1 : Int32).toNatClampNeg) : Int32).toNatClampNeg) 0 Post)))) ∧ ((S23 25 ((640 * (S 40 ((S 37 0) - 1 : Int32).toNatClampNeg)) + (S 39 ((S 37 0) - 1 : Int32).toNatClampNeg) : Int32).toNatClampNeg) = 12 → (vp_in (S 27 ((640 * (S 40 ((S 37 0) - 1 : Int32).toNatClampNeg)) + (S 39 ((S 37 0) - 1 : Int32).toNatClampNeg) : Int32).toNatClampNeg) 8 ∧ (vp_in ((15 * ((S 37 0) - 1)) + (S 26 ((640 * (S 40 ((S 37 0) - 1 : Int32).toNatClampNeg)) + (S 39 ((S 37 0) - 1 : Int32).toNatClampNeg) : Int32).toNatClampNeg)) 240 ∧ (∀ S53 : MST, S53 = ms S23 42 (upd (S23 42) ((15 * ((S 37 0) - 1)) + (S 26 ((640 * (S 40 ((S 37 0) - 1 : Int32).toNatClampNeg)) + (S 39 ((S 37 0) - 1 : Int32).toNatClampNeg) : Int32).toNatClampNeg) : Int32).toNatClampNeg (S23 12 (S 27 ((640 * (S 40 ((S 37 0) - 1 : Int32).toNatClampNeg)) + (S 39 ((S 37 0) - 1 : Int32).toNatClampNeg) : Int32).toNatClampNeg : Int32).toNatClampNeg)) → (wj_X12_goesByPart_649 S53 (S 29 ((640 * (S 40 ((S 37 0) - 1 : Int32).toNatClampNeg)) + (S 39 ((S 37 0) - 1 : Int32).toNatClampNeg) : Int32).toNatClampNeg) 0 Post))))) ∧ ((S23 25 ((640 * (S 40 ((S 37 0) - 1 : Int32).toNatClampNeg)) + (S 39 ((S 37 0) - 1 : Int32).toNatClampNeg) : Int32).toNatClampNeg) = 13 → (vp_in ((15 * ((S 37 0) - 1)) + (S 27 ((640 * (S 40 ((S 37 0) - 1 : Int32).toNatClampNeg)) + (S 39 ((S 37 0) - 1 : Int32).toNatClampNeg) : Int32).toNatClampNeg)) 240 ∧ (vp_in (S 26 ((640 * (S 40 ((S 37 0) - 1 : Int32).toNatClampNeg)) + (S 39 ((S 37 0) - 1 : Int32).toNatClampNeg) : Int32).toNatClampNeg) 8 ∧ (∀ S55 : MST, S55 = ms S23 12 (upd (S23 12) (S 26 ((640 * (S 40 ((S 37 0) - 1 : Int32).toNatClampNeg)) + (S 39 ((S 37 0) - 1 : Int32).toNatClampNeg) : Int32).toNatClampNeg : Int32).toNatClampNeg (S23 42 ((15 * ((S 37 0) - 1)) + (S 27 ((640 * (S 40 ((S 37 0) - 1 : Int32).toNatClampNeg)) + (S 39 ((S 37 0) - 1 : Int32).toNatClampNeg) : Int32).toNatClampNeg) : Int32).toNatClampNeg)) → (wj_X12_goesByPart_649 S55 (S 29 ((640 * (S 40 ((S 37 0) - 1 : Int32).toNatClampNeg)) + (S 39 ((S 37 0) - 1 : Int32).toNatClampNeg) : Int32).toNatClampNeg) 0 Post))))) ∧ ((S23 25 ((640 * (S 40 ((S 37 0) - 1 : Int32).toNatClampNeg)) + (S 39 ((S 37 0) - 1 : Int32).toNatClampNeg) : Int32).toNatClampNeg) = 14 → (vp_in ((15 * ((S 37 0) - 1)) + (S 27 ((640 * (S 40 ((S 37 0) - 1 : Int32).toNatClampNeg)) + (S 39 ((S 37 0) - 1 : Int32).toNatClampNeg) : Int32).toNatClampNeg)) 240 ∧ (wp_X12_makesRow S23 (S 26 ((640 * (S 40 ((S 37 0) - 1 : Int32).toNatClampNeg)) + (S 39 ((S 37 0) - 1 : Int32).toNatClampNeg) : Int32).toNatClampNeg) (S23 42 ((15 * ((S 37 0) - 1)) + (S 27 ((640 * (S 40 ((S 37 0) - 1 : Int32).toNatClampNeg)) + (S 39 ((S 37 0) - 1 : Int32).toNatClampNeg) : Int32).toNatClampNeg) : Int32).toNatClampNeg) (fun S57 r57 => wj_X12_goesByPart_649 S57 (S 29 ((640 * (S 40 ((S 37 0) - 1 : Int32).toNatClampNeg)) + (S 39 ((S 37 0) - 1 : Int32).toNatClampNeg) : Int32).toNatClampNeg) r57 Post)))) ∧ ((S23 25 ((640 * (S 40 ((S 37 0) - 1 : Int32).toNatClampNeg)) + (S 39 ((S 37 0) - 1 : Int32).toNatClampNeg) : Int32).toNatClampNeg) = 15 → (vp_in ((15 * ((S 37 0) - 1)) + (S 28 ((640 * (S 40 ((S 37 0) - 1 : Int32).toNatClampNeg)) + (S 39 ((S 37 0) - 1 : Int32).toNatClampNeg) : Int32).toNatClampNeg)) 240 ∧ (wp_X12_refuses S23 (S 27 ((640 * (S 40 ((S 37 0) - 1 : Int32).toNatClampNeg)) + (S 39 ((S 37 0) - 1 : Int32).toNatClampNeg) : Int32).toNatClampNeg) (S23 42 ((15 * ((S 37 0) - 1)) + (S 28 ((640 * (S 40 ((S 37 0) - 1 : Int32).toNatClampNeg)) + (S 39 ((S 37 0) - 1 : Int32).toNatClampNeg) : Int32).toNatClampNeg) : Int32).toNatClampNeg) (fun r59 => ((¬ ((r59 : Int32) = 0)) → (wj_X12_goesByPart_649 S23 (S 29 ((640 * (S 40 ((S 37 0) - 1 : Int32).toNatClampNeg)) + (S 39 ((S 37 0) - 1 : Int32).toNatClampNeg) : Int32).toNatClampNeg) r59 Post)) ∧ (((r59 : Int32) = 0) → (vp_in ((15 * ((S 37 0) - 1)) + (S 28 ((640 * (S 40 ((S 37 0) - 1 : Int32).toNatClampNeg)) + (S 39 ((S 37 0) - 1 : Int32).toNatClampNeg) : Int32).toNatClampNeg)) 240 ∧ (vp_in ((20 * (S 27 ((640 * (S 40 ((S 37 0) - 1 : Int32).toNatClampNeg)) + (S 39 ((S 37 0) - 1 : Int32).toNatClampNeg) : Int32).toNatClampNeg)) + (S23 42 ((15 * ((S 37 0) - 1)) + (S 28 ((640 * (S 40 ((S 37 0) - 1 : Int32).toNatClampNeg)) + (S 39 ((S 37 0) - 1 : Int32).toNatClampNeg) : Int32).toNatClampNeg) : Int32).toNatClampNeg)) 80 ∧ (vp_in ((15 * ((S 37 0) - 1)) + (S 26 ((640 * (S 40 ((S 37 0) - 1 : Int32).toNatClampNeg)) + (S 39 ((S 37 0) - 1 : Int32).toNatClampNeg) : Int32).toNatClampNeg)) 240 ∧ (∀ S63 : MST, S63 = ms S23 42 (upd (S23 42) ((15 * ((S 37 0) - 1)) + (S 26 ((640 * (S 40 ((S 37 0) - 1 : Int32).toNatClampNeg)) + (S 39 ((S 37 0) - 1 : Int32).toNatClampNeg) : Int32).toNatClampNeg) : Int32).toNatClampNeg (S23 14 ((20 * (S 27 ((640 * (S 40 ((S 37 0) - 1 : Int32).toNatClampNeg)) + (S 39 ((S 37 0) - 1 : Int32).toNatClampNeg) : Int32).toNatClampNeg)) + (S23 42 ((15 * ((S 37 0) - 1)) + (S 28 ((640 * (S 40 ((S 37 0) - 1 : Int32).toNatClampNeg)) + (S 39 ((S 37 0) - 1 : Int32).toNatClampNeg) : Int32).toNatClampNeg) : Int32).toNatClampNeg) : Int32).toNatClampNeg)) → (wj_X12_goesByPart_649 S63 (S 29 ((640 * (S 40 ((S 37 0) - 1 : Int32).toNatClampNeg)) + (S 39 ((S 37 0) - 1 : Int32).toNatClampNeg) : Int32).toNatClampNeg) r59 Post)))))))))) ∧ ((S23 25 ((640 * (S 40 ((S 37 0) - 1 : Int32).toNatClampNeg)) + (S 39 ((S 37 0) - 1 : Int32).toNatClampNeg) : Int32).toNatClampNeg) = 16 → (vp_in ((15 * ((S 37 0) - 1)) + (S 27 ((640 * (S 40 ((S 37 0) - 1 : Int32).toNatClampNeg)) + (S 39 ((S 37 0) - 1 : Int32).toNatClampNeg) : Int32).toNatClampNeg)) 240 ∧ (wp_X12_refuses S23 (S 26 ((640 * (S 40 ((S 37 0) - 1 : Int32).toNatClampNeg)) + (S 39 ((S 37 0) - 1 : Int32).toNatClampNeg) : Int32).toNatClampNeg) (S23 42 ((15 * ((S 37 0) - 1)) + (S 27 ((640 * (S 40 ((S 37 0) - 1 : Int32).toNatClampNeg)) + (S 39 ((S 37 0) - 1 : Int32).toNatClampNeg) : Int32).toNatClampNeg) : Int32).toNatClampNeg) (fun r65 => ((¬ ((r65 : Int32) = 0)) → (wj_X12_goesByPart_649 S23 (S 29 ((640 * (S 40 ((S 37 0) - 1 : Int32).toNatClampNeg)) + (S 39 ((S 37 0) - 1 : Int32).toNatClampNeg) : Int32).toNatClampNeg) r65 Post)) ∧ (((r65 : Int32) = 0) → (vp_in ((15 * ((S 37 0) - 1)) + (S 27 ((640 * (S 40 ((S 37 0) - 1 : Int32).toNatClampNeg)) + (S 39 ((S 37 0) - 1 : Int32).toNatClampNeg) : Int32).toNatClampNeg)) 240 ∧ (vp_in ((15 * ((S 37 0) - 1)) + (S 28 ((640 * (S 40 ((S 37 0) - 1 : Int32).toNatClampNeg)) + (S 39 ((S 37 0) - 1 : Int32).toNatClampNeg) : Int32).toNatClampNeg)) 240 ∧ (vp_in ((20 * (S 26 ((640 * (S 40 ((S 37 0) - 1 : Int32).toNatClampNeg)) + (S 39 ((S 37 0) - 1 : Int32).toNatClampNeg) : Int32).toNatClampNeg)) + (S23 42 ((15 * ((S 37 0) - 1)) + (S 27 ((640 * (S 40 ((S 37 0) - 1 : Int32).toNatClampNeg)) + (S 39 ((S 37 0) - 1 : Int32).toNatClampNeg) : Int32).toNatClampNeg) : Int32).toNatClampNeg)) 80 ∧ (∀ S69 : MST, S69 = ms S23 14 (upd (S23 14) ((20 * (S 26 ((640 * (S 40 ((S 37 0) - 1 : Int32).toNatClampNeg)) + (S 39 ((S 37 0) - 1 : Int32).toNatClampNeg) : Int32).toNatClampNeg)) + (S23 42 ((15 * ((S 37 0) - 1)) + (S 27 ((640 * (S 40 ((S 37 0) - 1 : Int32).toNatClampNeg)) + (S 39 ((S 37 0) - 1 : Int32).toNatClampNeg) : Int32).toNatClampNeg) : Int32).toNatClampNeg) : Int32).toNatClampNeg (S23 42 ((15 * ((S 37 0) - 1)) + (S 28 ((640 * (S 40 ((S 37 0) - 1 : Int32).toNatClampNeg)) + (S 39 ((S 37 0) - 1 : Int32).toNatClampNeg) : Int32).toNatClampNeg) : Int32).toNatClampNeg)) → (wj_X12_goesByPart_649 S69 (S 29 ((640 * (S 40 ((S 37 0) - 1 : Int32).toNatClampNeg)) + (S 39 ((S 37 0) - 1 : Int32).toNatClampNeg) : Int32).toNatClampNeg) r65 Post)))))))))) ∧ ((S23 25 ((640 * (S 40 ((S 37 0) - 1 : Int32).toNatClampNeg)) + (S 39 ((S 37 0) - 1 : Int32).toNatClampNeg) : Int32).toNatClampNeg) = 17 → (vp_in ((15 * ((S 37 0) - 1)) + (S 26 ((640 * (S 40 ((S 37 0) - 1 : Int32).toNatClampNeg)) + (S 39 ((S 37 0) - 1 : Int32).toNatClampNeg) : Int32).toNatClampNeg)) 240 ∧ (((((S23 42 ((15 * ((S 37 0) - 1)) + (S 26 ((640 * (S 40 ((S 37 0) - 1 : Int32).toNatClampNeg)) + (S 39 ((S 37 0) - 1 : Int32).toNatClampNeg) : Int32).toNatClampNeg) : Int32).toNatClampNeg) : Int32) = (S 27 ((640 * (S 40 ((S 37 0) - 1 : Int32).toNatClampNeg)) + (S 39 ((S 37 0) - 1 : Int32).toNatClampNeg) : Int32).toNatClampNeg)) → (wj_X12_goesByPart_649 S23 (S 29 ((640 * (S 40 ((S 37 0) - 1 : Int32).toNatClampNeg)) + (S 39 ((S 37 0) - 1 : Int32).toNatClampNeg) : Int32).toNatClampNeg) 0 Post)) ∧ ((¬ (((S23 42 ((15 * ((S 37 0) - 1)) + (S 26 ((640 * (S 40 ((S 37 0) - 1 : Int32).toNatClampNeg)) + (S 39 ((S 37 0) - 1 : Int32).toNatClampNeg) : Int32).toNatClampNeg) : Int32).toNatClampNeg) : Int32) = (S 27 ((640 * (S 40 ((S 37 0) - 1 : Int32).toNatClampNeg)) + (S 39 ((S 37 0) - 1 : Int32).toNatClampNeg) : Int32).toNatClampNeg))) → (wp_X12_fails S23 ((S 37 0) - 1) ((640 * (S 40 ((S 37 0) - 1 : Int32).toNatClampNeg)) + (S 39 ((S 37 0) - 1 : Int32).toNatClampNeg)) (S 26 ((640 * (S 40 ((S 37 0) - 1 : Int32).toNatClampNeg)) + (S 39 ((S 37 0) - 1 : Int32).toNatClampNeg) : Int32).toNatClampNeg) (fun S72 => wj_X12_goesByPart_649 S72 (S 29 ((640 * (S 40 ((S 37 0) - 1 : Int32).toNatClampNeg)) + (S 39 ((S 37 0) - 1 : Int32).toNatClampNeg) : Int32).toNatClampNeg) 0 Post)))))) ∧ ((S23 25 ((640 * (S 40 ((S 37 0) - 1 : Int32).toNatClampNeg)) + (S 39 ((S 37 0) - 1 : Int32).toNatClampNeg) : Int32).toNatClampNeg) = 18 → (vp_in (S 26 ((640 * (S 40 ((S 37 0) - 1 : Int32).toNatClampNeg)) + (S 39 ((S 37 0) - 1 : Int32).toNatClampNeg) : Int32).toNatClampNeg) 8 ∧ (((((S23 12 (S 26 ((640 * (S 40 ((S 37 0) - 1 : Int32).toNatClampNeg)) + (S 39 ((S 37 0) - 1 : Int32).toNatClampNeg) : Int32).toNatClampNeg : Int32).toNatClampNeg) : Int32) = (S 27 ((640 * (S 40 ((S 37 0) - 1 : Int32).toNatClampNeg)) + (S 39 ((S 37 0) - 1 : Int32).toNatClampNeg) : Int32).toNatClampNeg)) → (wj_X12_goesByPart_649 S23 (S 29 ((640 * (S 40 ((S 37 0) - 1 : Int32).toNatClampNeg)) + (S 39 ((S 37 0) - 1 : Int32).toNatClampNeg) : Int32).toNatClampNeg) 0 Post)) ∧ ((¬ (((S23 12 (S 26 ((640 * (S 40 ((S 37 0) - 1 : Int32).toNatClampNeg)) + (S 39 ((S 37 0) - 1 : Int32).toNatClampNeg) : Int32).toNatClampNeg : Int32).toNatClampNeg) : Int32) = (S 27 ((640 * (S 40 ((S 37 0) - 1 : Int32).toNatClampNeg)) + (S 39 ((S 37 0) - 1 : Int32).toNatClampNeg) : Int32).toNatClampNeg))) → (wp_X12_fails S23 ((S 37 0) - 1) ((640 * (S 40 ((S 37 0) - 1 : Int32).toNatClampNeg)) + (S 39 ((S 37 0) - 1 : Int32).toNatClampNeg)) (3 + (S 26 ((640 * (S 40 ((S 37 0) - 1 : Int32).toNatClampNeg)) + (S 39 ((S 37 0) - 1 : Int32).toNatClampNeg) : Int32).toNatClampNeg)) (fun S75 => wj_X12_goesByPart_649 S75 (S 29 ((640 * (S 40 ((S 37 0) - 1 : Int32).toNatClampNeg)) + (S 39 ((S 37 0) - 1 : Int32).toNatClampNeg) : Int32).toNatClampNeg) 0 Post)))))))))))))))
def zw_zd_X12_goesByPart_w0 : List Cond := [.code yX12_traps cX12_traps 3 none, .fieldLink RX12 233 "TemplateForgeModel" "outcome" "I", .fieldLink RX12 126 "TemplateForgeModel" "trap" "[I", .fieldLink RX12 111 "TemplateForgeModel" "frameMethod" "[I", .fieldLink RX12 236 "TemplateForgeModel" "open" "I", .methodLink RX12 239 yX12_traps, .instanceMethod yX12_traps, .selects RX12 yX12_traps yX12_traps, .initialized RX12, .fieldLink RX12 81 "TemplateForgeModel" "partOp" "[I", .fieldLink RX12 123 "TemplateForgeModel" "register" "[I", .code yX12_sumOf cX12_sumOf 3 (some .int), .methodLink RX12 195 yX12_sumOf, .static yX12_sumOf, .fieldLink RX12 114 "TemplateForgeModel" "frameAt" "[I", .fieldLink RX12 117 "TemplateForgeModel" "frameCode" "[I"]
def zw_zd_X12_goesByPart_w1 : List Cond := [.fieldLink RX12 84 "TemplateForgeModel" "partD" "[I", .fieldLink RX12 87 "TemplateForgeModel" "partA" "[I", .fieldLink RX12 90 "TemplateForgeModel" "partB" "[I", .fieldLink RX12 93 "TemplateForgeModel" "partOf" "[I", .fieldLink RX12 77 "TemplateForgeModel" "starts" "[I", .code yX12_stepOn cX12_stepOn 1 (some .boolean), .fieldLink RX12 230 "TemplateForgeModel" "steps" "I", .methodLink RX12 242 yX12_stepOn, .instanceMethod yX12_stepOn, .selects RX12 yX12_stepOn yX12_stepOn, .code yX12_call cX12_call 7 none, .fieldLink RX12 120 "TemplateForgeModel" "frameDepth" "[I", .fieldLink RX12 50 "TemplateForgeModel" "hasCode" "[Z", .code yX12_remember cX12_remember 6 none, .fieldLink RX12 53 "TemplateForgeModel" "counted" "[I", .fieldLink RX12 41 "TemplateForgeModel" "fields" "[I"]
def zw_zd_X12_goesByPart_w2 : List Cond := [.fieldLink RX12 68 "TemplateForgeModel" "isLike" "[Z", .fieldLink RX12 65 "TemplateForgeModel" "value" "[I", .fieldLink RX12 7 "TemplateForgeModel" "args" "[I", .methodLink RX12 255 yX12_remember, .instanceMethod yX12_remember, .selects RX12 yX12_remember yX12_remember, .code yX12_codeNow cX12_codeNow 2 (some .int), .fieldLink RX12 56 "TemplateForgeModel" "madeCodes" "[I", .methodLink RX12 217 yX12_codeNow, .instanceMethod yX12_codeNow, .selects RX12 yX12_codeNow yX12_codeNow, .fieldLink RX12 62 "TemplateForgeModel" "codeCalls" "[I", .fieldLink RX12 252 "TemplateForgeModel" "callsByCode" "I", .fieldLink RX12 246 "TemplateForgeModel" "calls" "I", .code yX12_makeCode cX12_makeCode 4 none, .code yX12_assumes cX12_assumes 4 none]
def zw_zd_X12_goesByPart_w3 : List Cond := [.code yX12_has cX12_has 6 (some .boolean), .fieldLink RX12 16 "TemplateForgeModel" "many" "[I", .fieldLink RX12 29 "TemplateForgeModel" "depths" "[I", .fieldLink RX12 19 "TemplateForgeModel" "op" "[I", .fieldLink RX12 22 "TemplateForgeModel" "operand" "[I", .methodLink RX12 178 yX12_has, .instanceMethod yX12_has, .selects RX12 yX12_has yX12_has, .fieldLink RX12 96 "TemplateForgeModel" "assumed" "[Z", .fieldLink RX12 71 "TemplateForgeModel" "doesVary" "[Z", .methodLink RX12 214 yX12_assumes, .instanceMethod yX12_assumes, .selects RX12 yX12_assumes yX12_assumes, .fieldLink RX12 181 "TemplateForgeModel" "code" "I", .fieldLink RX12 74 "TemplateForgeModel" "partMany" "[I", .fieldLink RX12 184 "TemplateForgeModel" "owner" "I"]
def zw_zd_X12_goesByPart_w4 : List Cond := [.code yX12_fieldGuards cX12_fieldGuards 3 none, .code yX12_part cX12_part 6 none, .methodLink RX12 187 yX12_part, .instanceMethod yX12_part, .selects RX12 yX12_part yX12_part, .methodLink RX12 208 yX12_fieldGuards, .instanceMethod yX12_fieldGuards, .selects RX12 yX12_fieldGuards yX12_fieldGuards, .code yX12_begins cX12_begins 3 none, .fieldLink RX12 99 "TemplateForgeModel" "localKnown" "[Z", .fieldLink RX12 102 "TemplateForgeModel" "localIs" "[I", .fieldLink RX12 105 "TemplateForgeModel" "placeKnown" "[Z", .methodLink RX12 220 yX12_begins, .instanceMethod yX12_begins, .selects RX12 yX12_begins yX12_begins, .code yX12_isTarget cX12_isTarget 3 (some .boolean)]
def zw_zd_X12_goesByPart_w5 : List Cond := [.methodLink RX12 223 yX12_isTarget, .instanceMethod yX12_isTarget, .selects RX12 yX12_isTarget yX12_isTarget, .code yX12_make cX12_make 7 none, .code yX12_makeTwo cX12_makeTwo 5 none, .code yX12_layOne cX12_layOne 2 none, .fieldLink RX12 108 "TemplateForgeModel" "placeIs" "[I", .methodLink RX12 191 yX12_layOne, .instanceMethod yX12_layOne, .selects RX12 yX12_layOne yX12_layOne, .methodLink RX12 211 yX12_makeTwo, .instanceMethod yX12_makeTwo, .selects RX12 yX12_makeTwo yX12_makeTwo, .code yX12_knows cX12_knows 3 none, .methodLink RX12 201 yX12_knows, .instanceMethod yX12_knows]
def zw_zd_X12_goesByPart_w6 : List Cond := [.selects RX12 yX12_knows yX12_knows, .code yX12_layAll cX12_layAll 3 none, .methodLink RX12 198 yX12_layAll, .instanceMethod yX12_layAll, .selects RX12 yX12_layAll yX12_layAll, .code yX12_makeWhen cX12_makeWhen 3 none, .methodLink RX12 205 yX12_makeWhen, .instanceMethod yX12_makeWhen, .selects RX12 yX12_makeWhen yX12_makeWhen, .methodLink RX12 227 yX12_make, .instanceMethod yX12_make, .selects RX12 yX12_make yX12_make, .methodLink RX12 249 yX12_makeCode, .instanceMethod yX12_makeCode, .selects RX12 yX12_makeCode yX12_makeCode, .methodLink RX12 262 yX12_call]
def zw_zd_X12_goesByPart_w7 : List Cond := [.instanceMethod yX12_call, .selects RX12 yX12_call yX12_call, .code yX12_returns cX12_returns 5 none, .fieldLink RX12 259 "TemplateForgeModel" "answer" "I", .methodLink RX12 266 yX12_returns, .instanceMethod yX12_returns, .selects RX12 yX12_returns yX12_returns, .code yX12_makesRow cX12_makesRow 4 (some .int), .fieldLink RX12 44 "TemplateForgeModel" "sizes" "[I", .fieldLink RX12 47 "TemplateForgeModel" "rows" "[I", .methodLink RX12 269 yX12_makesRow, .instanceMethod yX12_makesRow, .selects RX12 yX12_makesRow yX12_makesRow, .code yX12_refuses cX12_refuses 3 (some .int), .code yX12_in cX12_in 6 (some .boolean), .methodLink RX12 134 yX12_in]
def zw_zd_X12_goesByPart_w8 : List Cond := [.static yX12_in, .methodLink RX12 272 yX12_refuses, .instanceMethod yX12_refuses, .selects RX12 yX12_refuses yX12_refuses, .code yX12_fails cX12_fails 7 none, .code yX12_isBehindCall cX12_isBehindCall 3 (some .boolean), .methodLink RX12 278 yX12_isBehindCall, .instanceMethod yX12_isBehindCall, .selects RX12 yX12_isBehindCall yX12_isBehindCall, .fieldLink RX12 59 "TemplateForgeModel" "guardsFailed" "[I", .fieldLink RX12 275 "TemplateForgeModel" "failed" "I", .methodLink RX12 281 yX12_fails, .instanceMethod yX12_fails, .selects RX12 yX12_fails yX12_fails]
def zw_zd_X12_goesByPart : List Cond := .code yX12_goesByPart cX12_goesByPart 10 none :: ((zw_zd_X12_goesByPart_w0 ++ (zw_zd_X12_goesByPart_w1 ++ (zw_zd_X12_goesByPart_w2 ++ (zw_zd_X12_goesByPart_w3 ++ (zw_zd_X12_goesByPart_w4 ++ (zw_zd_X12_goesByPart_w5 ++ (zw_zd_X12_goesByPart_w6 ++ (zw_zd_X12_goesByPart_w7 ++ (zw_zd_X12_goesByPart_w8))))))))) ++ wsX120)
set_option maxRecDepth 100000 in
theorem zg_zd_X12_goesByPart_zd_X12_traps_239_a : GoodIn zw_zd_X12_goesByPart [.methodLink RX12 239 yX12_traps, .instanceMethod yX12_traps, .selects RX12 yX12_traps yX12_traps, .initialized RX12] := goodIn_r _ [6, 7, 8, 9] rfl (by decide +kernel)
set_option maxRecDepth 100000 in
theorem zg_zd_X12_goesByPart_zd_X12_traps_239_c : GoodIn zw_zd_X12_goesByPart [.code yX12_traps cX12_traps 3 none] := goodIn_r _ [1] rfl (by decide +kernel)
set_option maxRecDepth 100000 in
theorem zg_zd_X12_goesByPart_zd_X12_traps_239_0 : GoodIn zw_zd_X12_goesByPart zw_zd_X12_traps_w0 := goodIn_r _ [2, 3, 4, 5] rfl (by decide +kernel)
theorem zg_zd_X12_goesByPart_zd_X12_traps_239 : GoodIn zw_zd_X12_goesByPart (wsV RX12 239 RX12 yX12_traps zw_zd_X12_traps) := goodIn_app zg_zd_X12_goesByPart_zd_X12_traps_239_a (goodIn_ca (a := (zw_zd_X12_traps_w0)) (show GoodIn zw_zd_X12_goesByPart (.code yX12_traps cX12_traps 3 none :: (zw_zd_X12_traps_w0)) from goodIn_app zg_zd_X12_goesByPart_zd_X12_traps_239_c (zg_zd_X12_goesByPart_zd_X12_traps_239_0)) (fun w h => ⟨(fun _ h => List.mem_cons_of_mem _ (List.mem_append_right _ h)) w h, good_of_word (List.all_eq_true.mp zgw_X12 w h)⟩))
set_option maxRecDepth 100000 in
theorem zg_zd_X12_goesByPart_zd_X12_sumOf_195_a : GoodIn zw_zd_X12_goesByPart [.methodLink RX12 195 yX12_sumOf, .static yX12_sumOf, .initialized RX12] := goodIn_r _ [13, 14, 9] rfl (by decide +kernel)
set_option maxRecDepth 100000 in
theorem zg_zd_X12_goesByPart_zd_X12_sumOf_195_c : GoodIn zw_zd_X12_goesByPart [.code yX12_sumOf cX12_sumOf 3 (some .int)] := goodIn_r _ [12] rfl (by decide +kernel)
theorem zg_zd_X12_goesByPart_zd_X12_sumOf_195 : GoodIn zw_zd_X12_goesByPart (va_wsS RX12 195 yX12_sumOf zw_zd_X12_sumOf) := goodIn_app zg_zd_X12_goesByPart_zd_X12_sumOf_195_a (show GoodIn zw_zd_X12_goesByPart (.code yX12_sumOf cX12_sumOf 3 (some .int) :: (([] : List Cond))) from zg_zd_X12_goesByPart_zd_X12_sumOf_195_c)
set_option maxRecDepth 100000 in
theorem zg_zd_X12_goesByPart_zd_X12_stepOn_242_a : GoodIn zw_zd_X12_goesByPart [.methodLink RX12 242 yX12_stepOn, .instanceMethod yX12_stepOn, .selects RX12 yX12_stepOn yX12_stepOn, .initialized RX12] := goodIn_r _ [24, 25, 26, 9] rfl (by decide +kernel)
set_option maxRecDepth 100000 in
theorem zg_zd_X12_goesByPart_zd_X12_stepOn_242_c : GoodIn zw_zd_X12_goesByPart [.code yX12_stepOn cX12_stepOn 1 (some .boolean)] := goodIn_r _ [22] rfl (by decide +kernel)
set_option maxRecDepth 100000 in
theorem zg_zd_X12_goesByPart_zd_X12_stepOn_242_0 : GoodIn zw_zd_X12_goesByPart zw_zd_X12_stepOn_w0 := goodIn_r _ [23, 2] rfl (by decide +kernel)
theorem zg_zd_X12_goesByPart_zd_X12_stepOn_242 : GoodIn zw_zd_X12_goesByPart (wsV RX12 242 RX12 yX12_stepOn zw_zd_X12_stepOn) := goodIn_app zg_zd_X12_goesByPart_zd_X12_stepOn_242_a (goodIn_ca (a := (zw_zd_X12_stepOn_w0)) (show GoodIn zw_zd_X12_goesByPart (.code yX12_stepOn cX12_stepOn 1 (some .boolean) :: (zw_zd_X12_stepOn_w0)) from goodIn_app zg_zd_X12_goesByPart_zd_X12_stepOn_242_c (zg_zd_X12_goesByPart_zd_X12_stepOn_242_0)) (fun w h => ⟨(fun _ h => List.mem_cons_of_mem _ (List.mem_append_right _ h)) w h, good_of_word (List.all_eq_true.mp zgw_X12 w h)⟩))
set_option maxRecDepth 100000 in
theorem zg_zd_X12_goesByPart_zd_X12_call_r_262_a : GoodIn zw_zd_X12_goesByPart [.methodLink RX12 262 yX12_call, .instanceMethod yX12_call, .selects RX12 yX12_call yX12_call, .initialized RX12] := goodIn_r _ [112, 113, 114, 9] rfl (by decide +kernel)
set_option maxRecDepth 100000 in
theorem zg_zd_X12_goesByPart_zd_X12_call_r_262_c : GoodIn zw_zd_X12_goesByPart [.code yX12_call cX12_call 7 none] := goodIn_r _ [27] rfl (by decide +kernel)
set_option maxRecDepth 100000 in
theorem zg_zd_X12_goesByPart_zd_X12_call_r_262_0 : GoodIn zw_zd_X12_goesByPart zw_zd_X12_call_r_w0 := goodIn_r _ [5, 4, 15, 28, 29, 16, 30, 31, 32, 33, 34, 35, 36, 37, 38, 9] rfl (by decide +kernel)
set_option maxRecDepth 100000 in
theorem zg_zd_X12_goesByPart_zd_X12_call_r_262_1 : GoodIn zw_zd_X12_goesByPart zw_zd_X12_call_r_w1 := goodIn_r _ [39, 40, 41, 42, 43, 44, 45, 11, 22, 23, 2, 24, 25, 26, 46, 47] rfl (by decide +kernel)
set_option maxRecDepth 100000 in
theorem zg_zd_X12_goesByPart_zd_X12_call_r_262_2 : GoodIn zw_zd_X12_goesByPart zw_zd_X12_call_r_w2 := goodIn_r _ [48, 49, 50, 51, 52, 53, 54, 55, 56, 57, 58, 59, 60, 61, 62, 63] rfl (by decide +kernel)
set_option maxRecDepth 100000 in
theorem zg_zd_X12_goesByPart_zd_X12_call_r_262_3 : GoodIn zw_zd_X12_goesByPart zw_zd_X12_call_r_w3 := goodIn_r _ [64, 65, 66, 10, 17, 18, 19, 20, 67, 68, 69, 70, 71, 72, 73, 74] rfl (by decide +kernel)
set_option maxRecDepth 100000 in
theorem zg_zd_X12_goesByPart_zd_X12_call_r_262_4 : GoodIn zw_zd_X12_goesByPart zw_zd_X12_call_r_w4 := goodIn_r _ [75, 76, 77, 78, 79, 80, 81, 82, 83, 21, 84, 85, 86, 87, 88, 89] rfl (by decide +kernel)
set_option maxRecDepth 100000 in
theorem zg_zd_X12_goesByPart_zd_X12_call_r_262_5 : GoodIn zw_zd_X12_goesByPart zw_zd_X12_call_r_w5 := goodIn_r _ [90, 12, 13, 14, 91, 92, 93, 94, 95, 96, 97, 98, 99, 100, 101, 102] rfl (by decide +kernel)
set_option maxRecDepth 100000 in
theorem zg_zd_X12_goesByPart_zd_X12_call_r_262_6 : GoodIn zw_zd_X12_goesByPart zw_zd_X12_call_r_w6 := goodIn_r _ [103, 104, 105, 106, 107, 108, 109, 110, 111, 1, 3, 6, 7, 8] rfl (by decide +kernel)
theorem zg_zd_X12_goesByPart_zd_X12_call_r_262 : GoodIn zw_zd_X12_goesByPart (wsV RX12 262 RX12 yX12_call zw_zd_X12_call_r) := goodIn_app zg_zd_X12_goesByPart_zd_X12_call_r_262_a (goodIn_ca (a := (zw_zd_X12_call_r_w0 ++ (zw_zd_X12_call_r_w1 ++ (zw_zd_X12_call_r_w2 ++ (zw_zd_X12_call_r_w3 ++ (zw_zd_X12_call_r_w4 ++ (zw_zd_X12_call_r_w5 ++ (zw_zd_X12_call_r_w6)))))))) (show GoodIn zw_zd_X12_goesByPart (.code yX12_call cX12_call 7 none :: (zw_zd_X12_call_r_w0 ++ (zw_zd_X12_call_r_w1 ++ (zw_zd_X12_call_r_w2 ++ (zw_zd_X12_call_r_w3 ++ (zw_zd_X12_call_r_w4 ++ (zw_zd_X12_call_r_w5 ++ (zw_zd_X12_call_r_w6)))))))) from goodIn_app zg_zd_X12_goesByPart_zd_X12_call_r_262_c (goodIn_app zg_zd_X12_goesByPart_zd_X12_call_r_262_0 (goodIn_app zg_zd_X12_goesByPart_zd_X12_call_r_262_1 (goodIn_app zg_zd_X12_goesByPart_zd_X12_call_r_262_2 (goodIn_app zg_zd_X12_goesByPart_zd_X12_call_r_262_3 (goodIn_app zg_zd_X12_goesByPart_zd_X12_call_r_262_4 (goodIn_app zg_zd_X12_goesByPart_zd_X12_call_r_262_5 (zg_zd_X12_goesByPart_zd_X12_call_r_262_6)))))))) (fun w h => ⟨(fun _ h => List.mem_cons_of_mem _ (List.mem_append_right _ h)) w h, good_of_word (List.all_eq_true.mp zgw_X12 w h)⟩))
set_option maxRecDepth 100000 in
theorem zg_zd_X12_goesByPart_zd_X12_returns_266_a : GoodIn zw_zd_X12_goesByPart [.methodLink RX12 266 yX12_returns, .instanceMethod yX12_returns, .selects RX12 yX12_returns yX12_returns, .initialized RX12] := goodIn_r _ [117, 118, 119, 9] rfl (by decide +kernel)
set_option maxRecDepth 100000 in
theorem zg_zd_X12_goesByPart_zd_X12_returns_266_c : GoodIn zw_zd_X12_goesByPart [.code yX12_returns cX12_returns 5 none] := goodIn_r _ [115] rfl (by decide +kernel)
set_option maxRecDepth 100000 in
theorem zg_zd_X12_goesByPart_zd_X12_returns_266_0 : GoodIn zw_zd_X12_goesByPart zw_zd_X12_returns_w0 := goodIn_r _ [5, 16, 15, 11, 17, 53, 4, 28, 35, 116, 2] rfl (by decide +kernel)
theorem zg_zd_X12_goesByPart_zd_X12_returns_266 : GoodIn zw_zd_X12_goesByPart (wsV RX12 266 RX12 yX12_returns zw_zd_X12_returns) := goodIn_app zg_zd_X12_goesByPart_zd_X12_returns_266_a (goodIn_ca (a := (zw_zd_X12_returns_w0)) (show GoodIn zw_zd_X12_goesByPart (.code yX12_returns cX12_returns 5 none :: (zw_zd_X12_returns_w0)) from goodIn_app zg_zd_X12_goesByPart_zd_X12_returns_266_c (zg_zd_X12_goesByPart_zd_X12_returns_266_0)) (fun w h => ⟨(fun _ h => List.mem_cons_of_mem _ (List.mem_append_right _ h)) w h, good_of_word (List.all_eq_true.mp zgw_X12 w h)⟩))
set_option maxRecDepth 100000 in
theorem zg_zd_X12_goesByPart_zd_X12_makesRow_269_a : GoodIn zw_zd_X12_goesByPart [.methodLink RX12 269 yX12_makesRow, .instanceMethod yX12_makesRow, .selects RX12 yX12_makesRow yX12_makesRow, .initialized RX12] := goodIn_r _ [123, 124, 125, 9] rfl (by decide +kernel)
set_option maxRecDepth 100000 in
theorem zg_zd_X12_goesByPart_zd_X12_makesRow_269_c : GoodIn zw_zd_X12_goesByPart [.code yX12_makesRow cX12_makesRow 4 (some .int)] := goodIn_r _ [120] rfl (by decide +kernel)
set_option maxRecDepth 100000 in
theorem zg_zd_X12_goesByPart_zd_X12_makesRow_269_0 : GoodIn zw_zd_X12_goesByPart zw_zd_X12_makesRow_w0 := goodIn_r _ [121, 122] rfl (by decide +kernel)
theorem zg_zd_X12_goesByPart_zd_X12_makesRow_269 : GoodIn zw_zd_X12_goesByPart (wsV RX12 269 RX12 yX12_makesRow zw_zd_X12_makesRow) := goodIn_app zg_zd_X12_goesByPart_zd_X12_makesRow_269_a (goodIn_ca (a := (zw_zd_X12_makesRow_w0)) (show GoodIn zw_zd_X12_goesByPart (.code yX12_makesRow cX12_makesRow 4 (some .int) :: (zw_zd_X12_makesRow_w0)) from goodIn_app zg_zd_X12_goesByPart_zd_X12_makesRow_269_c (zg_zd_X12_goesByPart_zd_X12_makesRow_269_0)) (fun w h => ⟨(fun _ h => List.mem_cons_of_mem _ (List.mem_append_right _ h)) w h, good_of_word (List.all_eq_true.mp zgw_X12 w h)⟩))
set_option maxRecDepth 100000 in
theorem zg_zd_X12_goesByPart_zd_X12_refuses_272_a : GoodIn zw_zd_X12_goesByPart [.methodLink RX12 272 yX12_refuses, .instanceMethod yX12_refuses, .selects RX12 yX12_refuses yX12_refuses, .initialized RX12] := goodIn_r _ [130, 131, 132, 9] rfl (by decide +kernel)
set_option maxRecDepth 100000 in
theorem zg_zd_X12_goesByPart_zd_X12_refuses_272_c : GoodIn zw_zd_X12_goesByPart [.code yX12_refuses cX12_refuses 3 (some .int)] := goodIn_r _ [126] rfl (by decide +kernel)
set_option maxRecDepth 100000 in
theorem zg_zd_X12_goesByPart_zd_X12_refuses_272_0 : GoodIn zw_zd_X12_goesByPart zw_zd_X12_refuses_w0 := goodIn_r _ [121, 127, 128, 129, 9] rfl (by decide +kernel)
theorem zg_zd_X12_goesByPart_zd_X12_refuses_272 : GoodIn zw_zd_X12_goesByPart (wsV RX12 272 RX12 yX12_refuses zw_zd_X12_refuses) := goodIn_app zg_zd_X12_goesByPart_zd_X12_refuses_272_a (goodIn_ca (a := (zw_zd_X12_refuses_w0)) (show GoodIn zw_zd_X12_goesByPart (.code yX12_refuses cX12_refuses 3 (some .int) :: (zw_zd_X12_refuses_w0)) from goodIn_app zg_zd_X12_goesByPart_zd_X12_refuses_272_c (zg_zd_X12_goesByPart_zd_X12_refuses_272_0)) (fun w h => ⟨(fun _ h => List.mem_cons_of_mem _ (List.mem_append_right _ h)) w h, good_of_word (List.all_eq_true.mp zgw_X12 w h)⟩))
set_option maxRecDepth 100000 in
theorem zg_zd_X12_goesByPart_zd_X12_fails_281_a : GoodIn zw_zd_X12_goesByPart [.methodLink RX12 281 yX12_fails, .instanceMethod yX12_fails, .selects RX12 yX12_fails yX12_fails, .initialized RX12] := goodIn_r _ [140, 141, 142, 9] rfl (by decide +kernel)
set_option maxRecDepth 100000 in
theorem zg_zd_X12_goesByPart_zd_X12_fails_281_c : GoodIn zw_zd_X12_goesByPart [.code yX12_fails cX12_fails 7 none] := goodIn_r _ [133] rfl (by decide +kernel)
set_option maxRecDepth 100000 in
theorem zg_zd_X12_goesByPart_zd_X12_fails_281_0 : GoodIn zw_zd_X12_goesByPart zw_zd_X12_fails_w0 := goodIn_r _ [16, 15, 28, 51, 20, 10, 134, 135, 136, 137, 9, 4, 138, 139, 58, 29] rfl (by decide +kernel)
set_option maxRecDepth 100000 in
theorem zg_zd_X12_goesByPart_zd_X12_fails_281_1 : GoodIn zw_zd_X12_goesByPart zw_zd_X12_fails_w1 := goodIn_r _ [39, 40, 41, 42, 43, 31] rfl (by decide +kernel)
theorem zg_zd_X12_goesByPart_zd_X12_fails_281 : GoodIn zw_zd_X12_goesByPart (wsV RX12 281 RX12 yX12_fails zw_zd_X12_fails) := goodIn_app zg_zd_X12_goesByPart_zd_X12_fails_281_a (goodIn_ca (a := (zw_zd_X12_fails_w0 ++ (zw_zd_X12_fails_w1))) (show GoodIn zw_zd_X12_goesByPart (.code yX12_fails cX12_fails 7 none :: (zw_zd_X12_fails_w0 ++ (zw_zd_X12_fails_w1))) from goodIn_app zg_zd_X12_goesByPart_zd_X12_fails_281_c (goodIn_app zg_zd_X12_goesByPart_zd_X12_fails_281_0 (zg_zd_X12_goesByPart_zd_X12_fails_281_1))) (fun w h => ⟨(fun _ h => List.mem_cons_of_mem _ (List.mem_append_right _ h)) w h, good_of_word (List.all_eq_true.mp zgw_X12 w h)⟩))
set_option maxHeartbeats 16000000 in
set_option maxRecDepth 100000 in
theorem zd_X12_goesByPart (l : Launch) (D : va_G) (cI cZ cP cF : Nat) (h0 : Nat) (q : Nat → Nat) (S : MST) (sz : Nat) (Post : MST → Prop) (h : wp_X12_goesByPart S Post) : Met l yX12_goesByPart zw_zd_X12_goesByPart ({ frames := 7, cells := 0, slots := 0, locals := 165 }) (va_Pc [.ref h0] (fun U => U.heap.size = sz ∧ va_P D vwCl (mW cI cZ h0 q S) U.heap ∧ zE D cI cZ cP cF U ∧ va_D (fun _ => True) (mW cI cZ h0 q S))) (va_Qv (fun S' => Post S') (fun (S' : MST) t => va_P D vwCl (mW cI cZ h0 q S') t.heap ∧ va_D (va_A (mW cI cZ h0 q S) sz) (mW cI cZ h0 q S')) (va_A (mW cI cZ h0 q S) sz)) 0 0 (va_A (mW cI cZ h0 q S) sz) := by
  unfold wp_X12_goesByPart at h
  refine Met.ofW (cc := cX12_goesByPart) (maxL := 10) (ret := none) (by decide) rfl ?_
  intro p e s m args below meth c s₁ B hml hv
  obtain ⟨rfl, hsz, hP, hE, hD0⟩ := hv
  have hx := B.exec
  have hb := B.bytes
  have hr := B.returns
  have hts := atoms_spec (ws := zw_zd_X12_goesByPart) B.pre
  have hown : s.vm.findClass RX12 = some m.cls := findClass_of_methodNamed B.named
  have hlocks := B.notSynchronized
  have hK := hE.k
  subst hsz
  have hD := hD0.self (sz := s.heap.size)
  generalize hAe : va_A (mW cI cZ h0 q S) s.heap.size = A at hD ⊢
  have hA : ∀ q : Nat, s.heap.size ≤ q → A q := fun q h => by rw [← hAe]; exact Or.inr h
  have hl := lv_entry ([.ref h0]) (n := 10) (Nat.le_of_ble_eq_true rfl)
  rw [lg_entry_eq]
  generalize (lg_sl ([.ref h0]) ++ List.replicate (10 - (lg_sl ([.ref h0])).length) Slot.unset).toArray = ls at hl ⊢
  have hl : lv_has ls 10 [(0, .ref h0)] := hl
  have key : ∀ (H : Heap) (locs : List Loc), va_P D vwCl (mW cI cZ h0 q S) H → va_S A s.heap H locs → W p l e (headSpec zw_zd_X12_goesByPart ({ frames := 7, cells := 0, slots := 0, locals := 165 })).room s m ([.ref h0] : List Value).toArray below meth c H locs 0 0 (MQ below (va_Qv (fun S' => Post S') (fun (S' : MST) t => va_P D vwCl (mW cI cZ h0 q S') t.heap ∧ va_D A (mW cI cZ h0 q S')) A) ([.ref h0] : List Value).toArray s 0 0 A) (F0 m 0 ls []) := by
    intro H locs hP hS
    have J_649 : ∀ (S_649 : MST) (x649_8 : Int32) (x649_9 : Int32) (H : Heap) (locs : List Loc) (ls : Array Slot), wj_X12_goesByPart_649 S_649 x649_8 x649_9 Post → va_P D vwCl (mW cI cZ h0 q S_649) H → va_D A (mW cI cZ h0 q S_649) → va_S A s.heap H locs → lv_has ls 10 [(0, .ref h0), (8, .int x649_8), (9, .int x649_9)] → W p l e (headSpec zw_zd_X12_goesByPart ({ frames := 7, cells := 0, slots := 0, locals := 165 })).room s m ([.ref h0] : List Value).toArray below meth c H locs 0 0 (MQ below (va_Qv (fun S' => Post S') (fun (S' : MST) t => va_P D vwCl (mW cI cZ h0 q S') t.heap ∧ va_D A (mW cI cZ h0 q S')) A) ([.ref h0] : List Value).toArray s 0 0 A) (F0 m 649 ls []) := by
      intro S_649 x649_8 x649_9 H locs ls h hP hD hS hl
      unfold wj_X12_goesByPart_649 at h
      refine lv_iload hx hb dX12_goesByPart_649 (lv_at hl 2 rfl) ?_
      refine lv_if_eq (tgt := 662) hx hb dX12_goesByPart_651 (by decide) (fun c_1 => ?_) (fun c_1 => ?_)
      · have h := h.1 c_1
        exact W.vret hx hb hr (fun t ht hW => ⟨⟨S_649, rfl, h, by rw [ht]; exact hP, hD⟩, hS.F ht⟩) hS.2.2 dX12_goesByPart_662
      · have h := h.2 c_1
        refine lv_aload_n hx hb dX12_goesByPart_654 rfl (lv_at hl 0 rfl) ?_
        refine lv_iload hx hb dX12_goesByPart_655 (lv_at hl 2 rfl) ?_
        refine lv_iload hx hb dX12_goesByPart_657 (lv_at hl 1 rfl) ?_
        have hFc := zm_free hD hS hA
        refine va_callv (va_runV (As := [.int x649_9, .int x649_8]) (rest := []) ⟨hx, hb, hml, hown, hts⟩ (zd_X12_traps l D cI cZ cP cF h0 q S_649 x649_9 x649_8 H.size _ h) (cwV 2 hts zg_zd_X12_goesByPart_zd_X12_traps_239 rfl rfl rfl (by decide +kernel) ⟨Nat.le_of_ble_eq_true rfl, Nat.le_of_ble_eq_true rfl⟩) ⟨zBW, va_recv hK hP (ci := 12) (q0 := 0) rfl rfl, fun U hU hW => ⟨rfl, by rw [hU], by rw [hU]; exact hP, hE.warm hW, hD.weaken (fun _ _ _ _ => trivial)⟩⟩ rfl rfl hl.1 rfl (lv_room (Nat.le_of_ble_eq_true rfl)) dX12_goesByPart_659 ⟨Nat.le_of_ble_eq_true rfl, Nat.le_of_ble_eq_true rfl⟩) hS (fun q _ h => hFc q h) hFc (fun S2 t H locs ht hvm h hB hz1 hk1 hS => ?_)
        obtain ⟨hP, hD1⟩ := hB
        rw [ht] at hP
        have hD := hD1.weaken (fun k q _ hq => hFc q.1 hq)
        exact W.vret hx hb hr (fun t ht hW => ⟨⟨S2, rfl, h, by rw [ht]; exact hP, hD⟩, hS.F ht⟩) hS.2.2 dX12_goesByPart_662
    have J_573 : ∀ (S_573 : MST) (x573_3 : Int32) (x573_4 : Int32) (x573_5 : Int32) (x573_6 : Int32) (x573_7 : Int32) (x573_8 : Int32) (H : Heap) (locs : List Loc) (ls : Array Slot), wj_X12_goesByPart_573 S_573 x573_3 x573_4 x573_5 x573_6 x573_7 x573_8 Post → va_P D vwCl (mW cI cZ h0 q S_573) H → va_D A (mW cI cZ h0 q S_573) → va_S A s.heap H locs → lv_has ls 10 [(0, .ref h0), (3, .int x573_3), (4, .int x573_4), (5, .int x573_5), (6, .int x573_6), (7, .int x573_7), (8, .int x573_8)] → W p l e (headSpec zw_zd_X12_goesByPart ({ frames := 7, cells := 0, slots := 0, locals := 165 })).room s m ([.ref h0] : List Value).toArray below meth c H locs 0 0 (MQ below (va_Qv (fun S' => Post S') (fun (S' : MST) t => va_P D vwCl (mW cI cZ h0 q S') t.heap ∧ va_D A (mW cI cZ h0 q S')) A) ([.ref h0] : List Value).toArray s 0 0 A) (F0 m 573 ls []) := by
      intro S_573 x573_3 x573_4 x573_5 x573_6 x573_7 x573_8 H locs ls h hP hD hS hl
      unfold wj_X12_goesByPart_573 at h
      refine lv_aload_n hx hb dX12_goesByPart_573 rfl (lv_at hl 0 rfl) ?_
      refine va_get (D := D) (ci := 12) (v := .ref (q 25)) (C := RX12) (T := TX12) (N := 52) hx hb hts (fun _ h => List.mem_cons_of_mem _ (List.mem_append_right _ h)) hown hK hP 0 rfl rfl 25 (by decide) (hts (.fieldLink RX12 81 "TemplateForgeModel" "partOp" "[I") (List.mem_of_getElem? (i := 10) rfl)) (fun _ h9 => h9) rfl dX12_goesByPart_574 ?_
      refine lv_iload_n hx hb dX12_goesByPart_577 rfl (lv_at hl 1 rfl) ?_
      have hin_3 := h.1
      have h := h.2
      refine va_iald hx hb hK hP 24 0 rfl rfl hin_3 dX12_goesByPart_578 ?_
      refine lv_iconst (v := 5) hx hb dX12_goesByPart_579 (by decide) ?_
      refine lv_icmp_ne (tgt := 600) hx hb dX12_goesByPart_580 (by decide) (fun c_4 => ?_) (fun c_4 => ?_)
      · have h := h.1 c_4
        refine lv_iconst (v := 0) hx hb dX12_goesByPart_600 (by decide) ?_
        refine lv_istore (lv' := [(9, .int 0), (0, .ref h0), (3, .int x573_3), (4, .int x573_4), (5, .int x573_5), (6, .int x573_6), (7, .int x573_7), (8, .int x573_8)]) hx hb dX12_goesByPart_601 hl (by decide) rfl (fun ls hl => ?_)
        refine lv_iload hx hb dX12_goesByPart_603 (lv_at hl 0 rfl) ?_
        refine lv_if_ne (tgt := 649) hx hb dX12_goesByPart_605 (by decide) (fun c => absurd (by decide) c) (fun _ => ?_)
        refine lv_aload_n hx hb dX12_goesByPart_608 rfl (lv_at hl 1 rfl) ?_
        refine va_get (D := D) (ci := 12) (v := .ref (q 42)) (C := RX12) (T := TX12) (N := 52) hx hb hts (fun _ h => List.mem_cons_of_mem _ (List.mem_append_right _ h)) hown hK hP 0 rfl rfl 42 (by decide) (hts (.fieldLink RX12 123 "TemplateForgeModel" "register" "[I") (List.mem_of_getElem? (i := 11) rfl)) (fun _ h9 => h9) rfl dX12_goesByPart_609 ?_
        refine lv_iload hx hb dX12_goesByPart_612 (lv_at hl 3 rfl) ?_
        refine lv_iload hx hb dX12_goesByPart_614 (lv_at hl 4 rfl) ?_
        refine lv_iadd hx hb dX12_goesByPart_616 ?_
        refine lv_aload_n hx hb dX12_goesByPart_617 rfl (lv_at hl 1 rfl) ?_
        refine va_get (D := D) (ci := 12) (v := .ref (q 25)) (C := RX12) (T := TX12) (N := 52) hx hb hts (fun _ h => List.mem_cons_of_mem _ (List.mem_append_right _ h)) hown hK hP 0 rfl rfl 25 (by decide) (hts (.fieldLink RX12 81 "TemplateForgeModel" "partOp" "[I") (List.mem_of_getElem? (i := 10) rfl)) (fun _ h9 => h9) rfl dX12_goesByPart_618 ?_
        refine lv_iload_n hx hb dX12_goesByPart_621 rfl (lv_at hl 2 rfl) ?_
        have hin_5 := h.1
        have h := h.2
        refine va_iald hx hb hK hP 24 0 rfl rfl hin_5 dX12_goesByPart_622 ?_
        refine lv_iconst (v := 1) hx hb dX12_goesByPart_623 (by decide) ?_
        refine lv_iadd hx hb dX12_goesByPart_624 ?_
        refine lv_aload_n hx hb dX12_goesByPart_625 rfl (lv_at hl 1 rfl) ?_
        refine va_get (D := D) (ci := 12) (v := .ref (q 42)) (C := RX12) (T := TX12) (N := 52) hx hb hts (fun _ h => List.mem_cons_of_mem _ (List.mem_append_right _ h)) hown hK hP 0 rfl rfl 42 (by decide) (hts (.fieldLink RX12 123 "TemplateForgeModel" "register" "[I") (List.mem_of_getElem? (i := 11) rfl)) (fun _ h9 => h9) rfl dX12_goesByPart_626 ?_
        refine lv_iload hx hb dX12_goesByPart_629 (lv_at hl 3 rfl) ?_
        refine lv_iload hx hb dX12_goesByPart_631 (lv_at hl 5 rfl) ?_
        refine lv_iadd hx hb dX12_goesByPart_633 ?_
        have hin_6 := h.1
        have h := h.2
        refine va_iald hx hb hK hP 38 0 rfl rfl hin_6 dX12_goesByPart_634 ?_
        refine lv_aload_n hx hb dX12_goesByPart_635 rfl (lv_at hl 1 rfl) ?_
        refine va_get (D := D) (ci := 12) (v := .ref (q 42)) (C := RX12) (T := TX12) (N := 52) hx hb hts (fun _ h => List.mem_cons_of_mem _ (List.mem_append_right _ h)) hown hK hP 0 rfl rfl 42 (by decide) (hts (.fieldLink RX12 123 "TemplateForgeModel" "register" "[I") (List.mem_of_getElem? (i := 11) rfl)) (fun _ h9 => h9) rfl dX12_goesByPart_636 ?_
        refine lv_iload hx hb dX12_goesByPart_639 (lv_at hl 3 rfl) ?_
        refine lv_iload hx hb dX12_goesByPart_641 (lv_at hl 6 rfl) ?_
        refine lv_iadd hx hb dX12_goesByPart_643 ?_
        have hin_7 := h.1
        have h := h.2
        refine va_iald hx hb hK hP 38 0 rfl rfl hin_7 dX12_goesByPart_644 ?_
        have hP0 : va_P D vwCl [] H := fun k q h => by simp at h
        refine vp_callSi (va_Run.run (va_runS (As := [.int ((S_573 25 (x573_3 : Int32).toNatClampNeg) + 1), .int (S_573 42 (x573_4 + x573_6 : Int32).toNatClampNeg), .int (S_573 42 (x573_4 + x573_7 : Int32).toNatClampNeg)]) (rest := [.int (x573_4 + x573_5), .ref (q 42)]) ⟨hx, hb, hml, hown, hts⟩ (zd_X12_sumOf l D cI cZ cP cF ((S_573 25 (x573_3 : Int32).toNatClampNeg) + 1) (S_573 42 (x573_4 + x573_6 : Int32).toNatClampNeg) (S_573 42 (x573_4 + x573_7 : Int32).toNatClampNeg)  _ h) (va_cwS 3 hts zg_zd_X12_goesByPart_zd_X12_sumOf_195 rfl rfl rfl (by decide +kernel) ⟨Nat.le_of_ble_eq_true rfl, Nat.le_of_ble_eq_true rfl⟩) ⟨zBR, fun U hU hW => ⟨rfl, by rw [hU]; exact hP0, hE.warm hW⟩⟩ rfl rfl hl.1 rfl (lv_room (Nat.le_of_ble_eq_true rfl)) dX12_goesByPart_645 ⟨Nat.le_of_ble_eq_true rfl, Nat.le_of_ble_eq_true rfl⟩)) (fun r8 h => ?_)
        have hin_9 := h.1
        have h := h.2
        refine va_iast hx hb hK hP hD hS 38 0 rfl rfl hin_9 dX12_goesByPart_648 (fun H locs hP hD hS => ?_)
        obtain ⟨S9, eS9⟩ : ∃ z, z = ms S_573 42 (upd (S_573 42) (x573_4 + x573_5 : Int32).toNatClampNeg r8) := ⟨_, rfl⟩
        have hP : va_P D vwCl (mW cI cZ h0 q S9) H := by rw [eS9]; exact hP
        have hD : va_D A (mW cI cZ h0 q S9) := by rw [eS9]; exact hD
        have h := h S9 eS9
        exact J_649  S9 x573_8 0 H locs _ h hP hD hS (lv_sub hl [1, 7, 0] rfl)
      · have h := h.2 c_4
        refine lv_aload_n hx hb dX12_goesByPart_583 rfl (lv_at hl 0 rfl) ?_
        refine va_get (D := D) (ci := 12) (v := .ref (q 42)) (C := RX12) (T := TX12) (N := 52) hx hb hts (fun _ h => List.mem_cons_of_mem _ (List.mem_append_right _ h)) hown hK hP 0 rfl rfl 42 (by decide) (hts (.fieldLink RX12 123 "TemplateForgeModel" "register" "[I") (List.mem_of_getElem? (i := 11) rfl)) (fun _ h9 => h9) rfl dX12_goesByPart_584 ?_
        refine lv_iload hx hb dX12_goesByPart_587 (lv_at hl 2 rfl) ?_
        refine lv_iload hx hb dX12_goesByPart_589 (lv_at hl 5 rfl) ?_
        refine lv_iadd hx hb dX12_goesByPart_591 ?_
        have hin_10 := h.1
        have h := h.2
        refine va_iald hx hb hK hP 38 0 rfl rfl hin_10 dX12_goesByPart_592 ?_
        refine lv_if_ne (tgt := 600) hx hb dX12_goesByPart_593 (by decide) (fun c_11 => ?_) (fun c_11 => ?_)
        · have h := h.1 c_11
          refine lv_iconst (v := 0) hx hb dX12_goesByPart_600 (by decide) ?_
          refine lv_istore (lv' := [(9, .int 0), (0, .ref h0), (3, .int x573_3), (4, .int x573_4), (5, .int x573_5), (6, .int x573_6), (7, .int x573_7), (8, .int x573_8)]) hx hb dX12_goesByPart_601 hl (by decide) rfl (fun ls hl => ?_)
          refine lv_iload hx hb dX12_goesByPart_603 (lv_at hl 0 rfl) ?_
          refine lv_if_ne (tgt := 649) hx hb dX12_goesByPart_605 (by decide) (fun c => absurd (by decide) c) (fun _ => ?_)
          refine lv_aload_n hx hb dX12_goesByPart_608 rfl (lv_at hl 1 rfl) ?_
          refine va_get (D := D) (ci := 12) (v := .ref (q 42)) (C := RX12) (T := TX12) (N := 52) hx hb hts (fun _ h => List.mem_cons_of_mem _ (List.mem_append_right _ h)) hown hK hP 0 rfl rfl 42 (by decide) (hts (.fieldLink RX12 123 "TemplateForgeModel" "register" "[I") (List.mem_of_getElem? (i := 11) rfl)) (fun _ h9 => h9) rfl dX12_goesByPart_609 ?_
          refine lv_iload hx hb dX12_goesByPart_612 (lv_at hl 3 rfl) ?_
          refine lv_iload hx hb dX12_goesByPart_614 (lv_at hl 4 rfl) ?_
          refine lv_iadd hx hb dX12_goesByPart_616 ?_
          refine lv_aload_n hx hb dX12_goesByPart_617 rfl (lv_at hl 1 rfl) ?_
          refine va_get (D := D) (ci := 12) (v := .ref (q 25)) (C := RX12) (T := TX12) (N := 52) hx hb hts (fun _ h => List.mem_cons_of_mem _ (List.mem_append_right _ h)) hown hK hP 0 rfl rfl 25 (by decide) (hts (.fieldLink RX12 81 "TemplateForgeModel" "partOp" "[I") (List.mem_of_getElem? (i := 10) rfl)) (fun _ h9 => h9) rfl dX12_goesByPart_618 ?_
          refine lv_iload_n hx hb dX12_goesByPart_621 rfl (lv_at hl 2 rfl) ?_
          have hin_12 := h.1
          have h := h.2
          refine va_iald hx hb hK hP 24 0 rfl rfl hin_12 dX12_goesByPart_622 ?_
          refine lv_iconst (v := 1) hx hb dX12_goesByPart_623 (by decide) ?_
          refine lv_iadd hx hb dX12_goesByPart_624 ?_
          refine lv_aload_n hx hb dX12_goesByPart_625 rfl (lv_at hl 1 rfl) ?_
          refine va_get (D := D) (ci := 12) (v := .ref (q 42)) (C := RX12) (T := TX12) (N := 52) hx hb hts (fun _ h => List.mem_cons_of_mem _ (List.mem_append_right _ h)) hown hK hP 0 rfl rfl 42 (by decide) (hts (.fieldLink RX12 123 "TemplateForgeModel" "register" "[I") (List.mem_of_getElem? (i := 11) rfl)) (fun _ h9 => h9) rfl dX12_goesByPart_626 ?_
          refine lv_iload hx hb dX12_goesByPart_629 (lv_at hl 3 rfl) ?_
          refine lv_iload hx hb dX12_goesByPart_631 (lv_at hl 5 rfl) ?_
          refine lv_iadd hx hb dX12_goesByPart_633 ?_
          have hin_13 := h.1
          have h := h.2
          refine va_iald hx hb hK hP 38 0 rfl rfl hin_13 dX12_goesByPart_634 ?_
          refine lv_aload_n hx hb dX12_goesByPart_635 rfl (lv_at hl 1 rfl) ?_
          refine va_get (D := D) (ci := 12) (v := .ref (q 42)) (C := RX12) (T := TX12) (N := 52) hx hb hts (fun _ h => List.mem_cons_of_mem _ (List.mem_append_right _ h)) hown hK hP 0 rfl rfl 42 (by decide) (hts (.fieldLink RX12 123 "TemplateForgeModel" "register" "[I") (List.mem_of_getElem? (i := 11) rfl)) (fun _ h9 => h9) rfl dX12_goesByPart_636 ?_
          refine lv_iload hx hb dX12_goesByPart_639 (lv_at hl 3 rfl) ?_
          refine lv_iload hx hb dX12_goesByPart_641 (lv_at hl 6 rfl) ?_
          refine lv_iadd hx hb dX12_goesByPart_643 ?_
          have hin_14 := h.1
          have h := h.2
          refine va_iald hx hb hK hP 38 0 rfl rfl hin_14 dX12_goesByPart_644 ?_
          have hP0 : va_P D vwCl [] H := fun k q h => by simp at h
          refine vp_callSi (va_Run.run (va_runS (As := [.int ((S_573 25 (x573_3 : Int32).toNatClampNeg) + 1), .int (S_573 42 (x573_4 + x573_6 : Int32).toNatClampNeg), .int (S_573 42 (x573_4 + x573_7 : Int32).toNatClampNeg)]) (rest := [.int (x573_4 + x573_5), .ref (q 42)]) ⟨hx, hb, hml, hown, hts⟩ (zd_X12_sumOf l D cI cZ cP cF ((S_573 25 (x573_3 : Int32).toNatClampNeg) + 1) (S_573 42 (x573_4 + x573_6 : Int32).toNatClampNeg) (S_573 42 (x573_4 + x573_7 : Int32).toNatClampNeg)  _ h) (va_cwS 3 hts zg_zd_X12_goesByPart_zd_X12_sumOf_195 rfl rfl rfl (by decide +kernel) ⟨Nat.le_of_ble_eq_true rfl, Nat.le_of_ble_eq_true rfl⟩) ⟨zBR, fun U hU hW => ⟨rfl, by rw [hU]; exact hP0, hE.warm hW⟩⟩ rfl rfl hl.1 rfl (lv_room (Nat.le_of_ble_eq_true rfl)) dX12_goesByPart_645 ⟨Nat.le_of_ble_eq_true rfl, Nat.le_of_ble_eq_true rfl⟩)) (fun r15 h => ?_)
          have hin_16 := h.1
          have h := h.2
          refine va_iast hx hb hK hP hD hS 38 0 rfl rfl hin_16 dX12_goesByPart_648 (fun H locs hP hD hS => ?_)
          obtain ⟨S16, eS16⟩ : ∃ z, z = ms S_573 42 (upd (S_573 42) (x573_4 + x573_5 : Int32).toNatClampNeg r15) := ⟨_, rfl⟩
          have hP : va_P D vwCl (mW cI cZ h0 q S16) H := by rw [eS16]; exact hP
          have hD : va_D A (mW cI cZ h0 q S16) := by rw [eS16]; exact hD
          have h := h S16 eS16
          exact J_649  S16 x573_8 0 H locs _ h hP hD hS (lv_sub hl [1, 7, 0] rfl)
        · have h := h.2 c_11
          refine lv_iconst (v := 1) hx hb dX12_goesByPart_596 (by decide) ?_
          refine lv_goto (tgt := 601) hx hb dX12_goesByPart_597 (by decide) ?_
          refine lv_istore (lv' := [(9, .int 1), (0, .ref h0), (3, .int x573_3), (4, .int x573_4), (5, .int x573_5), (6, .int x573_6), (7, .int x573_7), (8, .int x573_8)]) hx hb dX12_goesByPart_601 hl (by decide) rfl (fun ls hl => ?_)
          refine lv_iload hx hb dX12_goesByPart_603 (lv_at hl 0 rfl) ?_
          refine lv_if_ne (tgt := 649) hx hb dX12_goesByPart_605 (by decide) (fun _ => ?_) (fun c => absurd c (by decide))
          exact J_649  S_573 x573_8 1 H locs _ h hP hD hS (lv_sub hl [1, 7, 0] rfl)
    refine lv_aload_n hx hb dX12_goesByPart_0 rfl (lv_at hl 0 rfl) ?_
    refine va_get (D := D) (ci := 12) (v := .int (S 37 0)) (C := RX12) (T := TX12) (N := 52) hx hb hts (fun _ h => List.mem_cons_of_mem _ (List.mem_append_right _ h)) hown hK hP 0 rfl rfl 37 (by decide) (hts (.fieldLink RX12 236 "TemplateForgeModel" "open" "I") (List.mem_of_getElem? (i := 5) rfl)) (fun _ h9 => h9) rfl dX12_goesByPart_1 ?_
    refine lv_iconst (v := 1) hx hb dX12_goesByPart_4 (by decide) ?_
    refine lv_isub hx hb dX12_goesByPart_5 ?_
    refine lv_istore_n (lv' := [(1, .int ((S 37 0) - 1)), (0, .ref h0)]) hx hb dX12_goesByPart_6 rfl hl (by decide) rfl (fun ls hl => ?_)
    refine lv_aload_n hx hb dX12_goesByPart_7 rfl (lv_at hl 1 rfl) ?_
    refine va_get (D := D) (ci := 12) (v := .ref (q 39)) (C := RX12) (T := TX12) (N := 52) hx hb hts (fun _ h => List.mem_cons_of_mem _ (List.mem_append_right _ h)) hown hK hP 0 rfl rfl 39 (by decide) (hts (.fieldLink RX12 114 "TemplateForgeModel" "frameAt" "[I") (List.mem_of_getElem? (i := 15) rfl)) (fun _ h9 => h9) rfl dX12_goesByPart_8 ?_
    refine lv_iload_n hx hb dX12_goesByPart_11 rfl (lv_at hl 0 rfl) ?_
    have hin_17 := h.1
    have h := h.2
    refine va_iald hx hb hK hP 35 0 rfl rfl hin_17 dX12_goesByPart_12 ?_
    refine lv_istore_n (lv' := [(2, .int (S 39 ((S 37 0) - 1 : Int32).toNatClampNeg)), (1, .int ((S 37 0) - 1)), (0, .ref h0)]) hx hb dX12_goesByPart_13 rfl hl (by decide) rfl (fun ls hl => ?_)
    refine lv_sipush (v := 640) hx hb dX12_goesByPart_14 (by decide) ?_
    refine lv_aload_n hx hb dX12_goesByPart_17 rfl (lv_at hl 2 rfl) ?_
    refine va_get (D := D) (ci := 12) (v := .ref (q 40)) (C := RX12) (T := TX12) (N := 52) hx hb hts (fun _ h => List.mem_cons_of_mem _ (List.mem_append_right _ h)) hown hK hP 0 rfl rfl 40 (by decide) (hts (.fieldLink RX12 117 "TemplateForgeModel" "frameCode" "[I") (List.mem_of_getElem? (i := 16) rfl)) (fun _ h9 => h9) rfl dX12_goesByPart_18 ?_
    refine lv_iload_n hx hb dX12_goesByPart_21 rfl (lv_at hl 1 rfl) ?_
    have hin_18 := h.1
    have h := h.2
    refine va_iald hx hb hK hP 36 0 rfl rfl hin_18 dX12_goesByPart_22 ?_
    refine lv_imul hx hb dX12_goesByPart_23 ?_
    refine lv_iload_n hx hb dX12_goesByPart_24 rfl (lv_at hl 0 rfl) ?_
    refine lv_iadd hx hb dX12_goesByPart_25 ?_
    refine lv_istore_n (lv' := [(3, .int ((640 * (S 40 ((S 37 0) - 1 : Int32).toNatClampNeg)) + (S 39 ((S 37 0) - 1 : Int32).toNatClampNeg))), (2, .int (S 39 ((S 37 0) - 1 : Int32).toNatClampNeg)), (1, .int ((S 37 0) - 1)), (0, .ref h0)]) hx hb dX12_goesByPart_26 rfl hl (by decide) rfl (fun ls hl => ?_)
    refine lv_bipush (v := 15) hx hb dX12_goesByPart_27 (by decide) ?_
    refine lv_iload_n hx hb dX12_goesByPart_29 rfl (lv_at hl 2 rfl) ?_
    refine lv_imul hx hb dX12_goesByPart_30 ?_
    refine lv_istore (lv' := [(4, .int (15 * ((S 37 0) - 1))), (3, .int ((640 * (S 40 ((S 37 0) - 1 : Int32).toNatClampNeg)) + (S 39 ((S 37 0) - 1 : Int32).toNatClampNeg))), (2, .int (S 39 ((S 37 0) - 1 : Int32).toNatClampNeg)), (1, .int ((S 37 0) - 1)), (0, .ref h0)]) hx hb dX12_goesByPart_31 hl (by decide) rfl (fun ls hl => ?_)
    refine lv_aload_n hx hb dX12_goesByPart_33 rfl (lv_at hl 4 rfl) ?_
    refine va_get (D := D) (ci := 12) (v := .ref (q 26)) (C := RX12) (T := TX12) (N := 52) hx hb hts (fun _ h => List.mem_cons_of_mem _ (List.mem_append_right _ h)) hown hK hP 0 rfl rfl 26 (by decide) (hts (.fieldLink RX12 84 "TemplateForgeModel" "partD" "[I") (List.mem_of_getElem? (i := 17) rfl)) (fun _ h9 => h9) rfl dX12_goesByPart_34 ?_
    refine lv_iload_n hx hb dX12_goesByPart_37 rfl (lv_at hl 1 rfl) ?_
    have hin_19 := h.1
    have h := h.2
    refine va_iald hx hb hK hP 25 0 rfl rfl hin_19 dX12_goesByPart_38 ?_
    refine lv_istore (lv' := [(5, .int (S 26 ((640 * (S 40 ((S 37 0) - 1 : Int32).toNatClampNeg)) + (S 39 ((S 37 0) - 1 : Int32).toNatClampNeg) : Int32).toNatClampNeg)), (4, .int (15 * ((S 37 0) - 1))), (3, .int ((640 * (S 40 ((S 37 0) - 1 : Int32).toNatClampNeg)) + (S 39 ((S 37 0) - 1 : Int32).toNatClampNeg))), (2, .int (S 39 ((S 37 0) - 1 : Int32).toNatClampNeg)), (1, .int ((S 37 0) - 1)), (0, .ref h0)]) hx hb dX12_goesByPart_39 hl (by decide) rfl (fun ls hl => ?_)
    refine lv_aload_n hx hb dX12_goesByPart_41 rfl (lv_at hl 5 rfl) ?_
    refine va_get (D := D) (ci := 12) (v := .ref (q 27)) (C := RX12) (T := TX12) (N := 52) hx hb hts (fun _ h => List.mem_cons_of_mem _ (List.mem_append_right _ h)) hown hK hP 0 rfl rfl 27 (by decide) (hts (.fieldLink RX12 87 "TemplateForgeModel" "partA" "[I") (List.mem_of_getElem? (i := 18) rfl)) (fun _ h9 => h9) rfl dX12_goesByPart_42 ?_
    refine lv_iload_n hx hb dX12_goesByPart_45 rfl (lv_at hl 2 rfl) ?_
    have hin_20 := h.1
    have h := h.2
    refine va_iald hx hb hK hP 26 0 rfl rfl hin_20 dX12_goesByPart_46 ?_
    refine lv_istore (lv' := [(6, .int (S 27 ((640 * (S 40 ((S 37 0) - 1 : Int32).toNatClampNeg)) + (S 39 ((S 37 0) - 1 : Int32).toNatClampNeg) : Int32).toNatClampNeg)), (5, .int (S 26 ((640 * (S 40 ((S 37 0) - 1 : Int32).toNatClampNeg)) + (S 39 ((S 37 0) - 1 : Int32).toNatClampNeg) : Int32).toNatClampNeg)), (4, .int (15 * ((S 37 0) - 1))), (3, .int ((640 * (S 40 ((S 37 0) - 1 : Int32).toNatClampNeg)) + (S 39 ((S 37 0) - 1 : Int32).toNatClampNeg))), (2, .int (S 39 ((S 37 0) - 1 : Int32).toNatClampNeg)), (1, .int ((S 37 0) - 1)), (0, .ref h0)]) hx hb dX12_goesByPart_47 hl (by decide) rfl (fun ls hl => ?_)
    refine lv_aload_n hx hb dX12_goesByPart_49 rfl (lv_at hl 6 rfl) ?_
    refine va_get (D := D) (ci := 12) (v := .ref (q 28)) (C := RX12) (T := TX12) (N := 52) hx hb hts (fun _ h => List.mem_cons_of_mem _ (List.mem_append_right _ h)) hown hK hP 0 rfl rfl 28 (by decide) (hts (.fieldLink RX12 90 "TemplateForgeModel" "partB" "[I") (List.mem_of_getElem? (i := 19) rfl)) (fun _ h9 => h9) rfl dX12_goesByPart_50 ?_
    refine lv_iload_n hx hb dX12_goesByPart_53 rfl (lv_at hl 3 rfl) ?_
    have hin_21 := h.1
    have h := h.2
    refine va_iald hx hb hK hP 27 0 rfl rfl hin_21 dX12_goesByPart_54 ?_
    refine lv_istore (lv' := [(7, .int (S 28 ((640 * (S 40 ((S 37 0) - 1 : Int32).toNatClampNeg)) + (S 39 ((S 37 0) - 1 : Int32).toNatClampNeg) : Int32).toNatClampNeg)), (6, .int (S 27 ((640 * (S 40 ((S 37 0) - 1 : Int32).toNatClampNeg)) + (S 39 ((S 37 0) - 1 : Int32).toNatClampNeg) : Int32).toNatClampNeg)), (5, .int (S 26 ((640 * (S 40 ((S 37 0) - 1 : Int32).toNatClampNeg)) + (S 39 ((S 37 0) - 1 : Int32).toNatClampNeg) : Int32).toNatClampNeg)), (4, .int (15 * ((S 37 0) - 1))), (3, .int ((640 * (S 40 ((S 37 0) - 1 : Int32).toNatClampNeg)) + (S 39 ((S 37 0) - 1 : Int32).toNatClampNeg))), (2, .int (S 39 ((S 37 0) - 1 : Int32).toNatClampNeg)), (1, .int ((S 37 0) - 1)), (0, .ref h0)]) hx hb dX12_goesByPart_55 hl (by decide) rfl (fun ls hl => ?_)
    refine lv_aload_n hx hb dX12_goesByPart_57 rfl (lv_at hl 7 rfl) ?_
    refine va_get (D := D) (ci := 12) (v := .ref (q 29)) (C := RX12) (T := TX12) (N := 52) hx hb hts (fun _ h => List.mem_cons_of_mem _ (List.mem_append_right _ h)) hown hK hP 0 rfl rfl 29 (by decide) (hts (.fieldLink RX12 93 "TemplateForgeModel" "partOf" "[I") (List.mem_of_getElem? (i := 20) rfl)) (fun _ h9 => h9) rfl dX12_goesByPart_58 ?_
    refine lv_iload_n hx hb dX12_goesByPart_61 rfl (lv_at hl 4 rfl) ?_
    have hin_22 := h.1
    have h := h.2
    refine va_iald hx hb hK hP 28 0 rfl rfl hin_22 dX12_goesByPart_62 ?_
    refine lv_istore (lv' := [(8, .int (S 29 ((640 * (S 40 ((S 37 0) - 1 : Int32).toNatClampNeg)) + (S 39 ((S 37 0) - 1 : Int32).toNatClampNeg) : Int32).toNatClampNeg)), (7, .int (S 28 ((640 * (S 40 ((S 37 0) - 1 : Int32).toNatClampNeg)) + (S 39 ((S 37 0) - 1 : Int32).toNatClampNeg) : Int32).toNatClampNeg)), (6, .int (S 27 ((640 * (S 40 ((S 37 0) - 1 : Int32).toNatClampNeg)) + (S 39 ((S 37 0) - 1 : Int32).toNatClampNeg) : Int32).toNatClampNeg)), (5, .int (S 26 ((640 * (S 40 ((S 37 0) - 1 : Int32).toNatClampNeg)) + (S 39 ((S 37 0) - 1 : Int32).toNatClampNeg) : Int32).toNatClampNeg)), (4, .int (15 * ((S 37 0) - 1))), (3, .int ((640 * (S 40 ((S 37 0) - 1 : Int32).toNatClampNeg)) + (S 39 ((S 37 0) - 1 : Int32).toNatClampNeg))), (2, .int (S 39 ((S 37 0) - 1 : Int32).toNatClampNeg)), (1, .int ((S 37 0) - 1)), (0, .ref h0)]) hx hb dX12_goesByPart_63 hl (by decide) rfl (fun ls hl => ?_)
    refine lv_iconst (v := 0) hx hb dX12_goesByPart_65 (by decide) ?_
    refine lv_istore (lv' := [(9, .int 0), (8, .int (S 29 ((640 * (S 40 ((S 37 0) - 1 : Int32).toNatClampNeg)) + (S 39 ((S 37 0) - 1 : Int32).toNatClampNeg) : Int32).toNatClampNeg)), (7, .int (S 28 ((640 * (S 40 ((S 37 0) - 1 : Int32).toNatClampNeg)) + (S 39 ((S 37 0) - 1 : Int32).toNatClampNeg) : Int32).toNatClampNeg)), (6, .int (S 27 ((640 * (S 40 ((S 37 0) - 1 : Int32).toNatClampNeg)) + (S 39 ((S 37 0) - 1 : Int32).toNatClampNeg) : Int32).toNatClampNeg)), (5, .int (S 26 ((640 * (S 40 ((S 37 0) - 1 : Int32).toNatClampNeg)) + (S 39 ((S 37 0) - 1 : Int32).toNatClampNeg) : Int32).toNatClampNeg)), (4, .int (15 * ((S 37 0) - 1))), (3, .int ((640 * (S 40 ((S 37 0) - 1 : Int32).toNatClampNeg)) + (S 39 ((S 37 0) - 1 : Int32).toNatClampNeg))), (2, .int (S 39 ((S 37 0) - 1 : Int32).toNatClampNeg)), (1, .int ((S 37 0) - 1)), (0, .ref h0)]) hx hb dX12_goesByPart_66 hl (by decide) rfl (fun ls hl => ?_)
    refine lv_aload_n hx hb dX12_goesByPart_68 rfl (lv_at hl 9 rfl) ?_
    refine va_get (D := D) (ci := 12) (v := .ref (q 39)) (C := RX12) (T := TX12) (N := 52) hx hb hts (fun _ h => List.mem_cons_of_mem _ (List.mem_append_right _ h)) hown hK hP 0 rfl rfl 39 (by decide) (hts (.fieldLink RX12 114 "TemplateForgeModel" "frameAt" "[I") (List.mem_of_getElem? (i := 15) rfl)) (fun _ h9 => h9) rfl dX12_goesByPart_69 ?_
    refine lv_iload_n hx hb dX12_goesByPart_72 rfl (lv_at hl 8 rfl) ?_
    refine lv_iload_n hx hb dX12_goesByPart_73 rfl (lv_at hl 7 rfl) ?_
    refine lv_iconst (v := 1) hx hb dX12_goesByPart_74 (by decide) ?_
    refine lv_iadd hx hb dX12_goesByPart_75 ?_
    have hin_23 := h.1
    have h := h.2
    refine va_iast hx hb hK hP hD hS 35 0 rfl rfl hin_23 dX12_goesByPart_76 (fun H locs hP hD hS => ?_)
    obtain ⟨S23, eS23⟩ : ∃ z, z = ms S 39 (upd (S 39) ((S 37 0) - 1 : Int32).toNatClampNeg ((S 39 ((S 37 0) - 1 : Int32).toNatClampNeg) + 1)) := ⟨_, rfl⟩
    have hP : va_P D vwCl (mW cI cZ h0 q S23) H := by rw [eS23]; exact hP
    have hD : va_D A (mW cI cZ h0 q S23) := by rw [eS23]; exact hD
    have h := h S23 eS23
    refine lv_aload_n hx hb dX12_goesByPart_77 rfl (lv_at hl 9 rfl) ?_
    refine va_get (D := D) (ci := 12) (v := .ref (q 25)) (C := RX12) (T := TX12) (N := 52) hx hb hts (fun _ h => List.mem_cons_of_mem _ (List.mem_append_right _ h)) hown hK hP 0 rfl rfl 25 (by decide) (hts (.fieldLink RX12 81 "TemplateForgeModel" "partOp" "[I") (List.mem_of_getElem? (i := 10) rfl)) (fun _ h9 => h9) rfl dX12_goesByPart_78 ?_
    refine lv_iload_n hx hb dX12_goesByPart_81 rfl (lv_at hl 6 rfl) ?_
    have hin_24 := h.1
    have h := h.2
    refine va_iald hx hb hK hP 24 0 rfl rfl hin_24 dX12_goesByPart_82 ?_
    rcases zt_0_18 (S23 25 ((640 * (S 40 ((S 37 0) - 1 : Int32).toNatClampNeg)) + (S 39 ((S 37 0) - 1 : Int32).toNatClampNeg) : Int32).toNatClampNeg) with h_out | h_in | h_in | h_in | h_in | h_in | h_in | h_in | h_in | h_in | h_in | h_in | h_in | h_in | h_in | h_in | h_in | h_in | h_in | h_in
    · have h := h.1 h_out
      refine lv_tableOut (tgt := 573) hx hb dX12_goesByPart_83 h_out (by decide) ?_
      exact J_573  S23 ((640 * (S 40 ((S 37 0) - 1 : Int32).toNatClampNeg)) + (S 39 ((S 37 0) - 1 : Int32).toNatClampNeg)) (15 * ((S 37 0) - 1)) (S 26 ((640 * (S 40 ((S 37 0) - 1 : Int32).toNatClampNeg)) + (S 39 ((S 37 0) - 1 : Int32).toNatClampNeg) : Int32).toNatClampNeg) (S 27 ((640 * (S 40 ((S 37 0) - 1 : Int32).toNatClampNeg)) + (S 39 ((S 37 0) - 1 : Int32).toNatClampNeg) : Int32).toNatClampNeg) (S 28 ((640 * (S 40 ((S 37 0) - 1 : Int32).toNatClampNeg)) + (S 39 ((S 37 0) - 1 : Int32).toNatClampNeg) : Int32).toNatClampNeg) (S 29 ((640 * (S 40 ((S 37 0) - 1 : Int32).toNatClampNeg)) + (S 39 ((S 37 0) - 1 : Int32).toNatClampNeg) : Int32).toNatClampNeg) H locs _ h hP hD hS (lv_sub hl [9, 6, 5, 4, 3, 2, 1] rfl)
    · have h := h.2.1 h_in
      refine lv_tableIn (off := 89) (tgt := 172) hx hb dX12_goesByPart_83 (by rw [h_in]; decide) (by rw [h_in]; decide) (by rw [h_in]; decide) (by decide) ?_
      refine lv_aload_n hx hb dX12_goesByPart_172 rfl (lv_at hl 9 rfl) ?_
      refine va_get (D := D) (ci := 12) (v := .ref (q 42)) (C := RX12) (T := TX12) (N := 52) hx hb hts (fun _ h => List.mem_cons_of_mem _ (List.mem_append_right _ h)) hown hK hP 0 rfl rfl 42 (by decide) (hts (.fieldLink RX12 123 "TemplateForgeModel" "register" "[I") (List.mem_of_getElem? (i := 11) rfl)) (fun _ h9 => h9) rfl dX12_goesByPart_173 ?_
      refine lv_iload hx hb dX12_goesByPart_176 (lv_at hl 5 rfl) ?_
      refine lv_iload hx hb dX12_goesByPart_178 (lv_at hl 4 rfl) ?_
      refine lv_iadd hx hb dX12_goesByPart_180 ?_
      refine lv_iload hx hb dX12_goesByPart_181 (lv_at hl 3 rfl) ?_
      have hin_25 := h.1
      have h := h.2
      refine va_iast hx hb hK hP hD hS 38 0 rfl rfl hin_25 dX12_goesByPart_183 (fun H locs hP hD hS => ?_)
      obtain ⟨S25, eS25⟩ : ∃ z, z = ms S23 42 (upd (S23 42) ((15 * ((S 37 0) - 1)) + (S 26 ((640 * (S 40 ((S 37 0) - 1 : Int32).toNatClampNeg)) + (S 39 ((S 37 0) - 1 : Int32).toNatClampNeg) : Int32).toNatClampNeg) : Int32).toNatClampNeg (S 27 ((640 * (S 40 ((S 37 0) - 1 : Int32).toNatClampNeg)) + (S 39 ((S 37 0) - 1 : Int32).toNatClampNeg) : Int32).toNatClampNeg)) := ⟨_, rfl⟩
      have hP : va_P D vwCl (mW cI cZ h0 q S25) H := by rw [eS25]; exact hP
      have hD : va_D A (mW cI cZ h0 q S25) := by rw [eS25]; exact hD
      have h := h S25 eS25
      refine lv_goto (tgt := 649) hx hb dX12_goesByPart_184 (by decide) ?_
      exact J_649  S25 (S 29 ((640 * (S 40 ((S 37 0) - 1 : Int32).toNatClampNeg)) + (S 39 ((S 37 0) - 1 : Int32).toNatClampNeg) : Int32).toNatClampNeg) 0 H locs _ h hP hD hS (lv_sub hl [9, 1, 0] rfl)
    · have h := h.2.2.1 h_in
      refine lv_tableIn (off := 104) (tgt := 187) hx hb dX12_goesByPart_83 (by rw [h_in]; decide) (by rw [h_in]; decide) (by rw [h_in]; decide) (by decide) ?_
      refine lv_aload_n hx hb dX12_goesByPart_187 rfl (lv_at hl 9 rfl) ?_
      refine va_get (D := D) (ci := 12) (v := .ref (q 42)) (C := RX12) (T := TX12) (N := 52) hx hb hts (fun _ h => List.mem_cons_of_mem _ (List.mem_append_right _ h)) hown hK hP 0 rfl rfl 42 (by decide) (hts (.fieldLink RX12 123 "TemplateForgeModel" "register" "[I") (List.mem_of_getElem? (i := 11) rfl)) (fun _ h9 => h9) rfl dX12_goesByPart_188 ?_
      refine lv_iload hx hb dX12_goesByPart_191 (lv_at hl 5 rfl) ?_
      refine lv_iload hx hb dX12_goesByPart_193 (lv_at hl 4 rfl) ?_
      refine lv_iadd hx hb dX12_goesByPart_195 ?_
      refine lv_aload_n hx hb dX12_goesByPart_196 rfl (lv_at hl 9 rfl) ?_
      refine va_get (D := D) (ci := 12) (v := .ref (q 42)) (C := RX12) (T := TX12) (N := 52) hx hb hts (fun _ h => List.mem_cons_of_mem _ (List.mem_append_right _ h)) hown hK hP 0 rfl rfl 42 (by decide) (hts (.fieldLink RX12 123 "TemplateForgeModel" "register" "[I") (List.mem_of_getElem? (i := 11) rfl)) (fun _ h9 => h9) rfl dX12_goesByPart_197 ?_
      refine lv_iload hx hb dX12_goesByPart_200 (lv_at hl 5 rfl) ?_
      refine lv_iload hx hb dX12_goesByPart_202 (lv_at hl 3 rfl) ?_
      refine lv_iadd hx hb dX12_goesByPart_204 ?_
      have hin_26 := h.1
      have h := h.2
      refine va_iald hx hb hK hP 38 0 rfl rfl hin_26 dX12_goesByPart_205 ?_
      have hin_27 := h.1
      have h := h.2
      refine va_iast hx hb hK hP hD hS 38 0 rfl rfl hin_27 dX12_goesByPart_206 (fun H locs hP hD hS => ?_)
      obtain ⟨S27, eS27⟩ : ∃ z, z = ms S23 42 (upd (S23 42) ((15 * ((S 37 0) - 1)) + (S 26 ((640 * (S 40 ((S 37 0) - 1 : Int32).toNatClampNeg)) + (S 39 ((S 37 0) - 1 : Int32).toNatClampNeg) : Int32).toNatClampNeg) : Int32).toNatClampNeg (S23 42 ((15 * ((S 37 0) - 1)) + (S 27 ((640 * (S 40 ((S 37 0) - 1 : Int32).toNatClampNeg)) + (S 39 ((S 37 0) - 1 : Int32).toNatClampNeg) : Int32).toNatClampNeg) : Int32).toNatClampNeg)) := ⟨_, rfl⟩
      have hP : va_P D vwCl (mW cI cZ h0 q S27) H := by rw [eS27]; exact hP
      have hD : va_D A (mW cI cZ h0 q S27) := by rw [eS27]; exact hD
      have h := h S27 eS27
      refine lv_goto (tgt := 649) hx hb dX12_goesByPart_207 (by decide) ?_
      exact J_649  S27 (S 29 ((640 * (S 40 ((S 37 0) - 1 : Int32).toNatClampNeg)) + (S 39 ((S 37 0) - 1 : Int32).toNatClampNeg) : Int32).toNatClampNeg) 0 H locs _ h hP hD hS (lv_sub hl [9, 1, 0] rfl)
    · have h := h.2.2.2.1 h_in
      refine lv_tableIn (off := 490) (tgt := 573) hx hb dX12_goesByPart_83 (by rw [h_in]; decide) (by rw [h_in]; decide) (by rw [h_in]; decide) (by decide) ?_
      exact J_573  S23 ((640 * (S 40 ((S 37 0) - 1 : Int32).toNatClampNeg)) + (S 39 ((S 37 0) - 1 : Int32).toNatClampNeg)) (15 * ((S 37 0) - 1)) (S 26 ((640 * (S 40 ((S 37 0) - 1 : Int32).toNatClampNeg)) + (S 39 ((S 37 0) - 1 : Int32).toNatClampNeg) : Int32).toNatClampNeg) (S 27 ((640 * (S 40 ((S 37 0) - 1 : Int32).toNatClampNeg)) + (S 39 ((S 37 0) - 1 : Int32).toNatClampNeg) : Int32).toNatClampNeg) (S 28 ((640 * (S 40 ((S 37 0) - 1 : Int32).toNatClampNeg)) + (S 39 ((S 37 0) - 1 : Int32).toNatClampNeg) : Int32).toNatClampNeg) (S 29 ((640 * (S 40 ((S 37 0) - 1 : Int32).toNatClampNeg)) + (S 39 ((S 37 0) - 1 : Int32).toNatClampNeg) : Int32).toNatClampNeg) H locs _ h hP hD hS (lv_sub hl [9, 6, 5, 4, 3, 2, 1] rfl)
    · have h := h.2.2.2.2.1 h_in
      refine lv_tableIn (off := 490) (tgt := 573) hx hb dX12_goesByPart_83 (by rw [h_in]; decide) (by rw [h_in]; decide) (by rw [h_in]; decide) (by decide) ?_
      exact J_573  S23 ((640 * (S 40 ((S 37 0) - 1 : Int32).toNatClampNeg)) + (S 39 ((S 37 0) - 1 : Int32).toNatClampNeg)) (15 * ((S 37 0) - 1)) (S 26 ((640 * (S 40 ((S 37 0) - 1 : Int32).toNatClampNeg)) + (S 39 ((S 37 0) - 1 : Int32).toNatClampNeg) : Int32).toNatClampNeg) (S 27 ((640 * (S 40 ((S 37 0) - 1 : Int32).toNatClampNeg)) + (S 39 ((S 37 0) - 1 : Int32).toNatClampNeg) : Int32).toNatClampNeg) (S 28 ((640 * (S 40 ((S 37 0) - 1 : Int32).toNatClampNeg)) + (S 39 ((S 37 0) - 1 : Int32).toNatClampNeg) : Int32).toNatClampNeg) (S 29 ((640 * (S 40 ((S 37 0) - 1 : Int32).toNatClampNeg)) + (S 39 ((S 37 0) - 1 : Int32).toNatClampNeg) : Int32).toNatClampNeg) H locs _ h hP hD hS (lv_sub hl [9, 6, 5, 4, 3, 2, 1] rfl)
    · have h := h.2.2.2.2.2.1 h_in
      refine lv_tableIn (off := 490) (tgt := 573) hx hb dX12_goesByPart_83 (by rw [h_in]; decide) (by rw [h_in]; decide) (by rw [h_in]; decide) (by decide) ?_
      exact J_573  S23 ((640 * (S 40 ((S 37 0) - 1 : Int32).toNatClampNeg)) + (S 39 ((S 37 0) - 1 : Int32).toNatClampNeg)) (15 * ((S 37 0) - 1)) (S 26 ((640 * (S 40 ((S 37 0) - 1 : Int32).toNatClampNeg)) + (S 39 ((S 37 0) - 1 : Int32).toNatClampNeg) : Int32).toNatClampNeg) (S 27 ((640 * (S 40 ((S 37 0) - 1 : Int32).toNatClampNeg)) + (S 39 ((S 37 0) - 1 : Int32).toNatClampNeg) : Int32).toNatClampNeg) (S 28 ((640 * (S 40 ((S 37 0) - 1 : Int32).toNatClampNeg)) + (S 39 ((S 37 0) - 1 : Int32).toNatClampNeg) : Int32).toNatClampNeg) (S 29 ((640 * (S 40 ((S 37 0) - 1 : Int32).toNatClampNeg)) + (S 39 ((S 37 0) - 1 : Int32).toNatClampNeg) : Int32).toNatClampNeg) H locs _ h hP hD hS (lv_sub hl [9, 6, 5, 4, 3, 2, 1] rfl)
    · have h := h.2.2.2.2.2.2.1 h_in
      refine lv_tableIn (off := 490) (tgt := 573) hx hb dX12_goesByPart_83 (by rw [h_in]; decide) (by rw [h_in]; decide) (by rw [h_in]; decide) (by decide) ?_
      exact J_573  S23 ((640 * (S 40 ((S 37 0) - 1 : Int32).toNatClampNeg)) + (S 39 ((S 37 0) - 1 : Int32).toNatClampNeg)) (15 * ((S 37 0) - 1)) (S 26 ((640 * (S 40 ((S 37 0) - 1 : Int32).toNatClampNeg)) + (S 39 ((S 37 0) - 1 : Int32).toNatClampNeg) : Int32).toNatClampNeg) (S 27 ((640 * (S 40 ((S 37 0) - 1 : Int32).toNatClampNeg)) + (S 39 ((S 37 0) - 1 : Int32).toNatClampNeg) : Int32).toNatClampNeg) (S 28 ((640 * (S 40 ((S 37 0) - 1 : Int32).toNatClampNeg)) + (S 39 ((S 37 0) - 1 : Int32).toNatClampNeg) : Int32).toNatClampNeg) (S 29 ((640 * (S 40 ((S 37 0) - 1 : Int32).toNatClampNeg)) + (S 39 ((S 37 0) - 1 : Int32).toNatClampNeg) : Int32).toNatClampNeg) H locs _ h hP hD hS (lv_sub hl [9, 6, 5, 4, 3, 2, 1] rfl)
    · have h := h.2.2.2.2.2.2.2.1 h_in
      refine lv_tableIn (off := 490) (tgt := 573) hx hb dX12_goesByPart_83 (by rw [h_in]; decide) (by rw [h_in]; decide) (by rw [h_in]; decide) (by decide) ?_
      exact J_573  S23 ((640 * (S 40 ((S 37 0) - 1 : Int32).toNatClampNeg)) + (S 39 ((S 37 0) - 1 : Int32).toNatClampNeg)) (15 * ((S 37 0) - 1)) (S 26 ((640 * (S 40 ((S 37 0) - 1 : Int32).toNatClampNeg)) + (S 39 ((S 37 0) - 1 : Int32).toNatClampNeg) : Int32).toNatClampNeg) (S 27 ((640 * (S 40 ((S 37 0) - 1 : Int32).toNatClampNeg)) + (S 39 ((S 37 0) - 1 : Int32).toNatClampNeg) : Int32).toNatClampNeg) (S 28 ((640 * (S 40 ((S 37 0) - 1 : Int32).toNatClampNeg)) + (S 39 ((S 37 0) - 1 : Int32).toNatClampNeg) : Int32).toNatClampNeg) (S 29 ((640 * (S 40 ((S 37 0) - 1 : Int32).toNatClampNeg)) + (S 39 ((S 37 0) - 1 : Int32).toNatClampNeg) : Int32).toNatClampNeg) H locs _ h hP hD hS (lv_sub hl [9, 6, 5, 4, 3, 2, 1] rfl)
    · have h := h.2.2.2.2.2.2.2.2.1 h_in
      refine lv_tableIn (off := 490) (tgt := 573) hx hb dX12_goesByPart_83 (by rw [h_in]; decide) (by rw [h_in]; decide) (by rw [h_in]; decide) (by decide) ?_
      exact J_573  S23 ((640 * (S 40 ((S 37 0) - 1 : Int32).toNatClampNeg)) + (S 39 ((S 37 0) - 1 : Int32).toNatClampNeg)) (15 * ((S 37 0) - 1)) (S 26 ((640 * (S 40 ((S 37 0) - 1 : Int32).toNatClampNeg)) + (S 39 ((S 37 0) - 1 : Int32).toNatClampNeg) : Int32).toNatClampNeg) (S 27 ((640 * (S 40 ((S 37 0) - 1 : Int32).toNatClampNeg)) + (S 39 ((S 37 0) - 1 : Int32).toNatClampNeg) : Int32).toNatClampNeg) (S 28 ((640 * (S 40 ((S 37 0) - 1 : Int32).toNatClampNeg)) + (S 39 ((S 37 0) - 1 : Int32).toNatClampNeg) : Int32).toNatClampNeg) (S 29 ((640 * (S 40 ((S 37 0) - 1 : Int32).toNatClampNeg)) + (S 39 ((S 37 0) - 1 : Int32).toNatClampNeg) : Int32).toNatClampNeg) H locs _ h hP hD hS (lv_sub hl [9, 6, 5, 4, 3, 2, 1] rfl)
    · have h := h.2.2.2.2.2.2.2.2.2.1 h_in
      refine lv_tableIn (off := 127) (tgt := 210) hx hb dX12_goesByPart_83 (by rw [h_in]; decide) (by rw [h_in]; decide) (by rw [h_in]; decide) (by decide) ?_
      refine lv_iload hx hb dX12_goesByPart_210 (lv_at hl 4 rfl) ?_
      refine lv_iload hx hb dX12_goesByPart_212 (lv_at hl 1 rfl) ?_
      refine lv_icmp_gt (tgt := 224) hx hb dX12_goesByPart_214 (by decide) (fun c_28 => ?_) (fun c_28 => ?_)
      · have h := h.1 c_28
        refine lv_aload_n hx hb dX12_goesByPart_224 rfl (lv_at hl 9 rfl) ?_
        refine va_get (D := D) (ci := 12) (v := .ref (q 39)) (C := RX12) (T := TX12) (N := 52) hx hb hts (fun _ h => List.mem_cons_of_mem _ (List.mem_append_right _ h)) hown hK hP 0 rfl rfl 39 (by decide) (hts (.fieldLink RX12 114 "TemplateForgeModel" "frameAt" "[I") (List.mem_of_getElem? (i := 15) rfl)) (fun _ h9 => h9) rfl dX12_goesByPart_225 ?_
        refine lv_iload_n hx hb dX12_goesByPart_228 rfl (lv_at hl 8 rfl) ?_
        refine lv_aload_n hx hb dX12_goesByPart_229 rfl (lv_at hl 9 rfl) ?_
        refine va_get (D := D) (ci := 12) (v := .ref (q 24)) (C := RX12) (T := TX12) (N := 52) hx hb hts (fun _ h => List.mem_cons_of_mem _ (List.mem_append_right _ h)) hown hK hP 0 rfl rfl 24 (by decide) (hts (.fieldLink RX12 77 "TemplateForgeModel" "starts" "[I") (List.mem_of_getElem? (i := 21) rfl)) (fun _ h9 => h9) rfl dX12_goesByPart_230 ?_
        refine lv_bipush (v := 60) hx hb dX12_goesByPart_233 (by decide) ?_
        refine lv_aload_n hx hb dX12_goesByPart_235 rfl (lv_at hl 9 rfl) ?_
        refine va_get (D := D) (ci := 12) (v := .ref (q 40)) (C := RX12) (T := TX12) (N := 52) hx hb hts (fun _ h => List.mem_cons_of_mem _ (List.mem_append_right _ h)) hown hK hP 0 rfl rfl 40 (by decide) (hts (.fieldLink RX12 117 "TemplateForgeModel" "frameCode" "[I") (List.mem_of_getElem? (i := 16) rfl)) (fun _ h9 => h9) rfl dX12_goesByPart_236 ?_
        refine lv_iload_n hx hb dX12_goesByPart_239 rfl (lv_at hl 8 rfl) ?_
        have hin_29 := h.1
        have h := h.2
        refine va_iald hx hb hK hP 36 0 rfl rfl hin_29 dX12_goesByPart_240 ?_
        refine lv_imul hx hb dX12_goesByPart_241 ?_
        refine lv_iload hx hb dX12_goesByPart_242 (lv_at hl 4 rfl) ?_
        refine lv_iadd hx hb dX12_goesByPart_244 ?_
        have hin_30 := h.1
        have h := h.2
        refine va_iald hx hb hK hP 23 0 rfl rfl hin_30 dX12_goesByPart_245 ?_
        have hin_31 := h.1
        have h := h.2
        refine va_iast hx hb hK hP hD hS 35 0 rfl rfl hin_31 dX12_goesByPart_246 (fun H locs hP hD hS => ?_)
        obtain ⟨S31, eS31⟩ : ∃ z, z = ms S23 39 (upd (S23 39) ((S 37 0) - 1 : Int32).toNatClampNeg (S23 24 ((60 * (S23 40 ((S 37 0) - 1 : Int32).toNatClampNeg)) + (S 26 ((640 * (S 40 ((S 37 0) - 1 : Int32).toNatClampNeg)) + (S 39 ((S 37 0) - 1 : Int32).toNatClampNeg) : Int32).toNatClampNeg) : Int32).toNatClampNeg)) := ⟨_, rfl⟩
        have hP : va_P D vwCl (mW cI cZ h0 q S31) H := by rw [eS31]; exact hP
        have hD : va_D A (mW cI cZ h0 q S31) := by rw [eS31]; exact hD
        have h := h S31 eS31
        refine lv_goto (tgt := 649) hx hb dX12_goesByPart_247 (by decide) ?_
        exact J_649  S31 (S 29 ((640 * (S 40 ((S 37 0) - 1 : Int32).toNatClampNeg)) + (S 39 ((S 37 0) - 1 : Int32).toNatClampNeg) : Int32).toNatClampNeg) 0 H locs _ h hP hD hS (lv_sub hl [9, 1, 0] rfl)
      · have h := h.2 c_28
        refine lv_aload_n hx hb dX12_goesByPart_217 rfl (lv_at hl 9 rfl) ?_
        have hFc := zm_free hD hS hA
        refine va_calli (va_runV (As := []) (rest := []) ⟨hx, hb, hml, hown, hts⟩ (zd_X12_stepOn l D cI cZ cP cF h0 q S23  H.size _ h) (cwV 0 hts zg_zd_X12_goesByPart_zd_X12_stepOn_242 rfl rfl rfl (by decide +kernel) ⟨Nat.le_of_ble_eq_true rfl, Nat.le_of_ble_eq_true rfl⟩) ⟨zBW, va_recv hK hP (ci := 12) (q0 := 0) rfl rfl, fun U hU hW => ⟨rfl, by rw [hU], by rw [hU]; exact hP, hE.warm hW, hD.weaken (fun _ _ _ _ => trivial)⟩⟩ rfl rfl hl.1 rfl (lv_room (Nat.le_of_ble_eq_true rfl)) dX12_goesByPart_218 ⟨Nat.le_of_ble_eq_true rfl, Nat.le_of_ble_eq_true rfl⟩) hS (fun q _ h => hFc q h) hFc (fun r32 S32 t H locs ht hvm h hB hz1 hk1 hS => ?_)
        obtain ⟨hP, hD1⟩ := hB
        rw [ht] at hP
        have hD := hD1.weaken (fun k q _ hq => hFc q.1 hq)
        refine lv_if_eq (tgt := 649) hx hb dX12_goesByPart_221 (by decide) (fun c_33 => ?_) (fun c_33 => ?_)
        · have h := h.1 c_33
          exact J_649  S32 (S 29 ((640 * (S 40 ((S 37 0) - 1 : Int32).toNatClampNeg)) + (S 39 ((S 37 0) - 1 : Int32).toNatClampNeg) : Int32).toNatClampNeg) 0 H locs _ h hP hD hS (lv_sub hl [9, 1, 0] rfl)
        · have h := h.2 c_33
          refine lv_aload_n hx hb dX12_goesByPart_224 rfl (lv_at hl 9 rfl) ?_
          refine va_get (D := D) (ci := 12) (v := .ref (q 39)) (C := RX12) (T := TX12) (N := 52) hx hb hts (fun _ h => List.mem_cons_of_mem _ (List.mem_append_right _ h)) hown hK hP 0 rfl rfl 39 (by decide) (hts (.fieldLink RX12 114 "TemplateForgeModel" "frameAt" "[I") (List.mem_of_getElem? (i := 15) rfl)) (fun _ h9 => h9) rfl dX12_goesByPart_225 ?_
          refine lv_iload_n hx hb dX12_goesByPart_228 rfl (lv_at hl 8 rfl) ?_
          refine lv_aload_n hx hb dX12_goesByPart_229 rfl (lv_at hl 9 rfl) ?_
          refine va_get (D := D) (ci := 12) (v := .ref (q 24)) (C := RX12) (T := TX12) (N := 52) hx hb hts (fun _ h => List.mem_cons_of_mem _ (List.mem_append_right _ h)) hown hK hP 0 rfl rfl 24 (by decide) (hts (.fieldLink RX12 77 "TemplateForgeModel" "starts" "[I") (List.mem_of_getElem? (i := 21) rfl)) (fun _ h9 => h9) rfl dX12_goesByPart_230 ?_
          refine lv_bipush (v := 60) hx hb dX12_goesByPart_233 (by decide) ?_
          refine lv_aload_n hx hb dX12_goesByPart_235 rfl (lv_at hl 9 rfl) ?_
          refine va_get (D := D) (ci := 12) (v := .ref (q 40)) (C := RX12) (T := TX12) (N := 52) hx hb hts (fun _ h => List.mem_cons_of_mem _ (List.mem_append_right _ h)) hown hK hP 0 rfl rfl 40 (by decide) (hts (.fieldLink RX12 117 "TemplateForgeModel" "frameCode" "[I") (List.mem_of_getElem? (i := 16) rfl)) (fun _ h9 => h9) rfl dX12_goesByPart_236 ?_
          refine lv_iload_n hx hb dX12_goesByPart_239 rfl (lv_at hl 8 rfl) ?_
          have hin_34 := h.1
          have h := h.2
          refine va_iald hx hb hK hP 36 0 rfl rfl hin_34 dX12_goesByPart_240 ?_
          refine lv_imul hx hb dX12_goesByPart_241 ?_
          refine lv_iload hx hb dX12_goesByPart_242 (lv_at hl 4 rfl) ?_
          refine lv_iadd hx hb dX12_goesByPart_244 ?_
          have hin_35 := h.1
          have h := h.2
          refine va_iald hx hb hK hP 23 0 rfl rfl hin_35 dX12_goesByPart_245 ?_
          have hin_36 := h.1
          have h := h.2
          refine va_iast hx hb hK hP hD hS 35 0 rfl rfl hin_36 dX12_goesByPart_246 (fun H locs hP hD hS => ?_)
          obtain ⟨S36, eS36⟩ : ∃ z, z = ms S32 39 (upd (S32 39) ((S 37 0) - 1 : Int32).toNatClampNeg (S32 24 ((60 * (S32 40 ((S 37 0) - 1 : Int32).toNatClampNeg)) + (S 26 ((640 * (S 40 ((S 37 0) - 1 : Int32).toNatClampNeg)) + (S 39 ((S 37 0) - 1 : Int32).toNatClampNeg) : Int32).toNatClampNeg) : Int32).toNatClampNeg)) := ⟨_, rfl⟩
          have hP : va_P D vwCl (mW cI cZ h0 q S36) H := by rw [eS36]; exact hP
          have hD : va_D A (mW cI cZ h0 q S36) := by rw [eS36]; exact hD
          have h := h S36 eS36
          refine lv_goto (tgt := 649) hx hb dX12_goesByPart_247 (by decide) ?_
          exact J_649  S36 (S 29 ((640 * (S 40 ((S 37 0) - 1 : Int32).toNatClampNeg)) + (S 39 ((S 37 0) - 1 : Int32).toNatClampNeg) : Int32).toNatClampNeg) 0 H locs _ h hP hD hS (lv_sub hl [9, 1, 0] rfl)
    · have h := h.2.2.2.2.2.2.2.2.2.2.1 h_in
      refine lv_tableIn (off := 167) (tgt := 250) hx hb dX12_goesByPart_83 (by rw [h_in]; decide) (by rw [h_in]; decide) (by rw [h_in]; decide) (by decide) ?_
      refine lv_aload_n hx hb dX12_goesByPart_250 rfl (lv_at hl 9 rfl) ?_
      refine va_get (D := D) (ci := 12) (v := .ref (q 42)) (C := RX12) (T := TX12) (N := 52) hx hb hts (fun _ h => List.mem_cons_of_mem _ (List.mem_append_right _ h)) hown hK hP 0 rfl rfl 42 (by decide) (hts (.fieldLink RX12 123 "TemplateForgeModel" "register" "[I") (List.mem_of_getElem? (i := 11) rfl)) (fun _ h9 => h9) rfl dX12_goesByPart_251 ?_
      refine lv_iload hx hb dX12_goesByPart_254 (lv_at hl 5 rfl) ?_
      refine lv_iload hx hb dX12_goesByPart_256 (lv_at hl 3 rfl) ?_
      refine lv_iadd hx hb dX12_goesByPart_258 ?_
      have hin_37 := h.1
      have h := h.2
      refine va_iald hx hb hK hP 38 0 rfl rfl hin_37 dX12_goesByPart_259 ?_
      refine lv_if_ne (tgt := 649) hx hb dX12_goesByPart_260 (by decide) (fun c_38 => ?_) (fun c_38 => ?_)
      · have h := h.1 c_38
        exact J_649  S23 (S 29 ((640 * (S 40 ((S 37 0) - 1 : Int32).toNatClampNeg)) + (S 39 ((S 37 0) - 1 : Int32).toNatClampNeg) : Int32).toNatClampNeg) 0 H locs _ h hP hD hS (lv_sub hl [9, 1, 0] rfl)
      · have h := h.2 c_38
        refine lv_iload hx hb dX12_goesByPart_263 (lv_at hl 4 rfl) ?_
        refine lv_iload hx hb dX12_goesByPart_265 (lv_at hl 1 rfl) ?_
        refine lv_icmp_gt (tgt := 277) hx hb dX12_goesByPart_267 (by decide) (fun c_39 => ?_) (fun c_39 => ?_)
        · have h := h.1 c_39
          refine lv_aload_n hx hb dX12_goesByPart_277 rfl (lv_at hl 9 rfl) ?_
          refine va_get (D := D) (ci := 12) (v := .ref (q 39)) (C := RX12) (T := TX12) (N := 52) hx hb hts (fun _ h => List.mem_cons_of_mem _ (List.mem_append_right _ h)) hown hK hP 0 rfl rfl 39 (by decide) (hts (.fieldLink RX12 114 "TemplateForgeModel" "frameAt" "[I") (List.mem_of_getElem? (i := 15) rfl)) (fun _ h9 => h9) rfl dX12_goesByPart_278 ?_
          refine lv_iload_n hx hb dX12_goesByPart_281 rfl (lv_at hl 8 rfl) ?_
          refine lv_aload_n hx hb dX12_goesByPart_282 rfl (lv_at hl 9 rfl) ?_
          refine va_get (D := D) (ci := 12) (v := .ref (q 24)) (C := RX12) (T := TX12) (N := 52) hx hb hts (fun _ h => List.mem_cons_of_mem _ (List.mem_append_right _ h)) hown hK hP 0 rfl rfl 24 (by decide) (hts (.fieldLink RX12 77 "TemplateForgeModel" "starts" "[I") (List.mem_of_getElem? (i := 21) rfl)) (fun _ h9 => h9) rfl dX12_goesByPart_283 ?_
          refine lv_bipush (v := 60) hx hb dX12_goesByPart_286 (by decide) ?_
          refine lv_aload_n hx hb dX12_goesByPart_288 rfl (lv_at hl 9 rfl) ?_
          refine va_get (D := D) (ci := 12) (v := .ref (q 40)) (C := RX12) (T := TX12) (N := 52) hx hb hts (fun _ h => List.mem_cons_of_mem _ (List.mem_append_right _ h)) hown hK hP 0 rfl rfl 40 (by decide) (hts (.fieldLink RX12 117 "TemplateForgeModel" "frameCode" "[I") (List.mem_of_getElem? (i := 16) rfl)) (fun _ h9 => h9) rfl dX12_goesByPart_289 ?_
          refine lv_iload_n hx hb dX12_goesByPart_292 rfl (lv_at hl 8 rfl) ?_
          have hin_40 := h.1
          have h := h.2
          refine va_iald hx hb hK hP 36 0 rfl rfl hin_40 dX12_goesByPart_293 ?_
          refine lv_imul hx hb dX12_goesByPart_294 ?_
          refine lv_iload hx hb dX12_goesByPart_295 (lv_at hl 4 rfl) ?_
          refine lv_iadd hx hb dX12_goesByPart_297 ?_
          have hin_41 := h.1
          have h := h.2
          refine va_iald hx hb hK hP 23 0 rfl rfl hin_41 dX12_goesByPart_298 ?_
          have hin_42 := h.1
          have h := h.2
          refine va_iast hx hb hK hP hD hS 35 0 rfl rfl hin_42 dX12_goesByPart_299 (fun H locs hP hD hS => ?_)
          obtain ⟨S42, eS42⟩ : ∃ z, z = ms S23 39 (upd (S23 39) ((S 37 0) - 1 : Int32).toNatClampNeg (S23 24 ((60 * (S23 40 ((S 37 0) - 1 : Int32).toNatClampNeg)) + (S 26 ((640 * (S 40 ((S 37 0) - 1 : Int32).toNatClampNeg)) + (S 39 ((S 37 0) - 1 : Int32).toNatClampNeg) : Int32).toNatClampNeg) : Int32).toNatClampNeg)) := ⟨_, rfl⟩
          have hP : va_P D vwCl (mW cI cZ h0 q S42) H := by rw [eS42]; exact hP
          have hD : va_D A (mW cI cZ h0 q S42) := by rw [eS42]; exact hD
          have h := h S42 eS42
          refine lv_goto (tgt := 649) hx hb dX12_goesByPart_300 (by decide) ?_
          exact J_649  S42 (S 29 ((640 * (S 40 ((S 37 0) - 1 : Int32).toNatClampNeg)) + (S 39 ((S 37 0) - 1 : Int32).toNatClampNeg) : Int32).toNatClampNeg) 0 H locs _ h hP hD hS (lv_sub hl [9, 1, 0] rfl)
        · have h := h.2 c_39
          refine lv_aload_n hx hb dX12_goesByPart_270 rfl (lv_at hl 9 rfl) ?_
          have hFc := zm_free hD hS hA
          refine va_calli (va_runV (As := []) (rest := []) ⟨hx, hb, hml, hown, hts⟩ (zd_X12_stepOn l D cI cZ cP cF h0 q S23  H.size _ h) (cwV 0 hts zg_zd_X12_goesByPart_zd_X12_stepOn_242 rfl rfl rfl (by decide +kernel) ⟨Nat.le_of_ble_eq_true rfl, Nat.le_of_ble_eq_true rfl⟩) ⟨zBW, va_recv hK hP (ci := 12) (q0 := 0) rfl rfl, fun U hU hW => ⟨rfl, by rw [hU], by rw [hU]; exact hP, hE.warm hW, hD.weaken (fun _ _ _ _ => trivial)⟩⟩ rfl rfl hl.1 rfl (lv_room (Nat.le_of_ble_eq_true rfl)) dX12_goesByPart_271 ⟨Nat.le_of_ble_eq_true rfl, Nat.le_of_ble_eq_true rfl⟩) hS (fun q _ h => hFc q h) hFc (fun r43 S43 t H locs ht hvm h hB hz1 hk1 hS => ?_)
          obtain ⟨hP, hD1⟩ := hB
          rw [ht] at hP
          have hD := hD1.weaken (fun k q _ hq => hFc q.1 hq)
          refine lv_if_eq (tgt := 649) hx hb dX12_goesByPart_274 (by decide) (fun c_44 => ?_) (fun c_44 => ?_)
          · have h := h.1 c_44
            exact J_649  S43 (S 29 ((640 * (S 40 ((S 37 0) - 1 : Int32).toNatClampNeg)) + (S 39 ((S 37 0) - 1 : Int32).toNatClampNeg) : Int32).toNatClampNeg) 0 H locs _ h hP hD hS (lv_sub hl [9, 1, 0] rfl)
          · have h := h.2 c_44
            refine lv_aload_n hx hb dX12_goesByPart_277 rfl (lv_at hl 9 rfl) ?_
            refine va_get (D := D) (ci := 12) (v := .ref (q 39)) (C := RX12) (T := TX12) (N := 52) hx hb hts (fun _ h => List.mem_cons_of_mem _ (List.mem_append_right _ h)) hown hK hP 0 rfl rfl 39 (by decide) (hts (.fieldLink RX12 114 "TemplateForgeModel" "frameAt" "[I") (List.mem_of_getElem? (i := 15) rfl)) (fun _ h9 => h9) rfl dX12_goesByPart_278 ?_
            refine lv_iload_n hx hb dX12_goesByPart_281 rfl (lv_at hl 8 rfl) ?_
            refine lv_aload_n hx hb dX12_goesByPart_282 rfl (lv_at hl 9 rfl) ?_
            refine va_get (D := D) (ci := 12) (v := .ref (q 24)) (C := RX12) (T := TX12) (N := 52) hx hb hts (fun _ h => List.mem_cons_of_mem _ (List.mem_append_right _ h)) hown hK hP 0 rfl rfl 24 (by decide) (hts (.fieldLink RX12 77 "TemplateForgeModel" "starts" "[I") (List.mem_of_getElem? (i := 21) rfl)) (fun _ h9 => h9) rfl dX12_goesByPart_283 ?_
            refine lv_bipush (v := 60) hx hb dX12_goesByPart_286 (by decide) ?_
            refine lv_aload_n hx hb dX12_goesByPart_288 rfl (lv_at hl 9 rfl) ?_
            refine va_get (D := D) (ci := 12) (v := .ref (q 40)) (C := RX12) (T := TX12) (N := 52) hx hb hts (fun _ h => List.mem_cons_of_mem _ (List.mem_append_right _ h)) hown hK hP 0 rfl rfl 40 (by decide) (hts (.fieldLink RX12 117 "TemplateForgeModel" "frameCode" "[I") (List.mem_of_getElem? (i := 16) rfl)) (fun _ h9 => h9) rfl dX12_goesByPart_289 ?_
            refine lv_iload_n hx hb dX12_goesByPart_292 rfl (lv_at hl 8 rfl) ?_
            have hin_45 := h.1
            have h := h.2
            refine va_iald hx hb hK hP 36 0 rfl rfl hin_45 dX12_goesByPart_293 ?_
            refine lv_imul hx hb dX12_goesByPart_294 ?_
            refine lv_iload hx hb dX12_goesByPart_295 (lv_at hl 4 rfl) ?_
            refine lv_iadd hx hb dX12_goesByPart_297 ?_
            have hin_46 := h.1
            have h := h.2
            refine va_iald hx hb hK hP 23 0 rfl rfl hin_46 dX12_goesByPart_298 ?_
            have hin_47 := h.1
            have h := h.2
            refine va_iast hx hb hK hP hD hS 35 0 rfl rfl hin_47 dX12_goesByPart_299 (fun H locs hP hD hS => ?_)
            obtain ⟨S47, eS47⟩ : ∃ z, z = ms S43 39 (upd (S43 39) ((S 37 0) - 1 : Int32).toNatClampNeg (S43 24 ((60 * (S43 40 ((S 37 0) - 1 : Int32).toNatClampNeg)) + (S 26 ((640 * (S 40 ((S 37 0) - 1 : Int32).toNatClampNeg)) + (S 39 ((S 37 0) - 1 : Int32).toNatClampNeg) : Int32).toNatClampNeg) : Int32).toNatClampNeg)) := ⟨_, rfl⟩
            have hP : va_P D vwCl (mW cI cZ h0 q S47) H := by rw [eS47]; exact hP
            have hD : va_D A (mW cI cZ h0 q S47) := by rw [eS47]; exact hD
            have h := h S47 eS47
            refine lv_goto (tgt := 649) hx hb dX12_goesByPart_300 (by decide) ?_
            exact J_649  S47 (S 29 ((640 * (S 40 ((S 37 0) - 1 : Int32).toNatClampNeg)) + (S 39 ((S 37 0) - 1 : Int32).toNatClampNeg) : Int32).toNatClampNeg) 0 H locs _ h hP hD hS (lv_sub hl [9, 1, 0] rfl)
    · have h := h.2.2.2.2.2.2.2.2.2.2.2.1 h_in
      refine lv_tableIn (off := 220) (tgt := 303) hx hb dX12_goesByPart_83 (by rw [h_in]; decide) (by rw [h_in]; decide) (by rw [h_in]; decide) (by decide) ?_
      refine lv_aload_n hx hb dX12_goesByPart_303 rfl (lv_at hl 9 rfl) ?_
      refine va_get (D := D) (ci := 12) (v := .ref (q 39)) (C := RX12) (T := TX12) (N := 52) hx hb hts (fun _ h => List.mem_cons_of_mem _ (List.mem_append_right _ h)) hown hK hP 0 rfl rfl 39 (by decide) (hts (.fieldLink RX12 114 "TemplateForgeModel" "frameAt" "[I") (List.mem_of_getElem? (i := 15) rfl)) (fun _ h9 => h9) rfl dX12_goesByPart_304 ?_
      refine lv_iload_n hx hb dX12_goesByPart_307 rfl (lv_at hl 8 rfl) ?_
      refine lv_iload_n hx hb dX12_goesByPart_308 rfl (lv_at hl 7 rfl) ?_
      have hin_48 := h.1
      have h := h.2
      refine va_iast hx hb hK hP hD hS 35 0 rfl rfl hin_48 dX12_goesByPart_309 (fun H locs hP hD hS => ?_)
      obtain ⟨S48, eS48⟩ : ∃ z, z = ms S23 39 (upd (S23 39) ((S 37 0) - 1 : Int32).toNatClampNeg (S 39 ((S 37 0) - 1 : Int32).toNatClampNeg)) := ⟨_, rfl⟩
      have hP : va_P D vwCl (mW cI cZ h0 q S48) H := by rw [eS48]; exact hP
      have hD : va_D A (mW cI cZ h0 q S48) := by rw [eS48]; exact hD
      have h := h S48 eS48
      refine lv_aload_n hx hb dX12_goesByPart_310 rfl (lv_at hl 9 rfl) ?_
      refine lv_iload hx hb dX12_goesByPart_311 (lv_at hl 3 rfl) ?_
      refine lv_aload_n hx hb dX12_goesByPart_313 rfl (lv_at hl 9 rfl) ?_
      refine va_get (D := D) (ci := 12) (v := .ref (q 42)) (C := RX12) (T := TX12) (N := 52) hx hb hts (fun _ h => List.mem_cons_of_mem _ (List.mem_append_right _ h)) hown hK hP 0 rfl rfl 42 (by decide) (hts (.fieldLink RX12 123 "TemplateForgeModel" "register" "[I") (List.mem_of_getElem? (i := 11) rfl)) (fun _ h9 => h9) rfl dX12_goesByPart_314 ?_
      refine lv_iload hx hb dX12_goesByPart_317 (lv_at hl 5 rfl) ?_
      refine lv_iload hx hb dX12_goesByPart_319 (lv_at hl 4 rfl) ?_
      refine lv_iadd hx hb dX12_goesByPart_321 ?_
      refine lv_iload hx hb dX12_goesByPart_322 (lv_at hl 1 rfl) ?_
      have hFc := zm_free hD hS hA
      refine va_callv (va_runV (As := [.int (S 27 ((640 * (S 40 ((S 37 0) - 1 : Int32).toNatClampNeg)) + (S 39 ((S 37 0) - 1 : Int32).toNatClampNeg) : Int32).toNatClampNeg), .ref (q 42), .int ((15 * ((S 37 0) - 1)) + (S 26 ((640 * (S 40 ((S 37 0) - 1 : Int32).toNatClampNeg)) + (S 39 ((S 37 0) - 1 : Int32).toNatClampNeg) : Int32).toNatClampNeg)), .int (S 29 ((640 * (S 40 ((S 37 0) - 1 : Int32).toNatClampNeg)) + (S 39 ((S 37 0) - 1 : Int32).toNatClampNeg) : Int32).toNatClampNeg)]) (rest := []) ⟨hx, hb, hml, hown, hts⟩ (zd_X12_call_r l D cI cZ cP cF h0 q S48 (S 27 ((640 * (S 40 ((S 37 0) - 1 : Int32).toNatClampNeg)) + (S 39 ((S 37 0) - 1 : Int32).toNatClampNeg) : Int32).toNatClampNeg) ((15 * ((S 37 0) - 1)) + (S 26 ((640 * (S 40 ((S 37 0) - 1 : Int32).toNatClampNeg)) + (S 39 ((S 37 0) - 1 : Int32).toNatClampNeg) : Int32).toNatClampNeg)) (S 29 ((640 * (S 40 ((S 37 0) - 1 : Int32).toNatClampNeg)) + (S 39 ((S 37 0) - 1 : Int32).toNatClampNeg) : Int32).toNatClampNeg) H.size _ h) (cwV 4 hts zg_zd_X12_goesByPart_zd_X12_call_r_262 rfl rfl rfl (by decide +kernel) ⟨Nat.le_of_ble_eq_true rfl, Nat.le_of_ble_eq_true rfl⟩) ⟨zBW, va_recv hK hP (ci := 12) (q0 := 0) rfl rfl, fun U hU hW => ⟨rfl, by rw [hU], by rw [hU]; exact hP, hE.warm hW, hD.weaken (fun _ _ _ _ => trivial)⟩⟩ rfl rfl hl.1 rfl (lv_room (Nat.le_of_ble_eq_true rfl)) dX12_goesByPart_324 ⟨Nat.le_of_ble_eq_true rfl, Nat.le_of_ble_eq_true rfl⟩) hS (fun q _ h => hFc q h) hFc (fun S49 t H locs ht hvm h hB hz1 hk1 hS => ?_)
      obtain ⟨hP, hD1⟩ := hB
      rw [ht] at hP
      have hD := hD1.weaken (fun k q _ hq => hFc q.1 hq)
      refine lv_goto (tgt := 649) hx hb dX12_goesByPart_327 (by decide) ?_
      exact J_649  S49 (S 29 ((640 * (S 40 ((S 37 0) - 1 : Int32).toNatClampNeg)) + (S 39 ((S 37 0) - 1 : Int32).toNatClampNeg) : Int32).toNatClampNeg) 0 H locs _ h hP hD hS (lv_sub hl [9, 1, 0] rfl)
    · have h := h.2.2.2.2.2.2.2.2.2.2.2.2.1 h_in
      refine lv_tableIn (off := 247) (tgt := 330) hx hb dX12_goesByPart_83 (by rw [h_in]; decide) (by rw [h_in]; decide) (by rw [h_in]; decide) (by decide) ?_
      refine lv_aload_n hx hb dX12_goesByPart_330 rfl (lv_at hl 9 rfl) ?_
      refine lv_aload_n hx hb dX12_goesByPart_331 rfl (lv_at hl 9 rfl) ?_
      refine va_get (D := D) (ci := 12) (v := .ref (q 42)) (C := RX12) (T := TX12) (N := 52) hx hb hts (fun _ h => List.mem_cons_of_mem _ (List.mem_append_right _ h)) hown hK hP 0 rfl rfl 42 (by decide) (hts (.fieldLink RX12 123 "TemplateForgeModel" "register" "[I") (List.mem_of_getElem? (i := 11) rfl)) (fun _ h9 => h9) rfl dX12_goesByPart_332 ?_
      refine lv_iload hx hb dX12_goesByPart_335 (lv_at hl 5 rfl) ?_
      refine lv_iload hx hb dX12_goesByPart_337 (lv_at hl 3 rfl) ?_
      refine lv_iadd hx hb dX12_goesByPart_339 ?_
      have hin_50 := h.1
      have h := h.2
      refine va_iald hx hb hK hP 38 0 rfl rfl hin_50 dX12_goesByPart_340 ?_
      have hFc := zm_free hD hS hA
      refine va_callv (va_runV (As := [.int (S23 42 ((15 * ((S 37 0) - 1)) + (S 27 ((640 * (S 40 ((S 37 0) - 1 : Int32).toNatClampNeg)) + (S 39 ((S 37 0) - 1 : Int32).toNatClampNeg) : Int32).toNatClampNeg) : Int32).toNatClampNeg)]) (rest := []) ⟨hx, hb, hml, hown, hts⟩ (zd_X12_returns l D cI cZ cP cF h0 q S23 (S23 42 ((15 * ((S 37 0) - 1)) + (S 27 ((640 * (S 40 ((S 37 0) - 1 : Int32).toNatClampNeg)) + (S 39 ((S 37 0) - 1 : Int32).toNatClampNeg) : Int32).toNatClampNeg) : Int32).toNatClampNeg) H.size _ h) (cwV 1 hts zg_zd_X12_goesByPart_zd_X12_returns_266 rfl rfl rfl (by decide +kernel) ⟨Nat.le_of_ble_eq_true rfl, Nat.le_of_ble_eq_true rfl⟩) ⟨zBW, va_recv hK hP (ci := 12) (q0 := 0) rfl rfl, fun U hU hW => ⟨rfl, by rw [hU], by rw [hU]; exact hP, hE.warm hW, hD.weaken (fun _ _ _ _ => trivial)⟩⟩ rfl rfl hl.1 rfl (lv_room (Nat.le_of_ble_eq_true rfl)) dX12_goesByPart_341 ⟨Nat.le_of_ble_eq_true rfl, Nat.le_of_ble_eq_true rfl⟩) hS (fun q _ h => hFc q h) hFc (fun S51 t H locs ht hvm h hB hz1 hk1 hS => ?_)
      obtain ⟨hP, hD1⟩ := hB
      rw [ht] at hP
      have hD := hD1.weaken (fun k q _ hq => hFc q.1 hq)
      refine lv_goto (tgt := 649) hx hb dX12_goesByPart_344 (by decide) ?_
      exact J_649  S51 (S 29 ((640 * (S 40 ((S 37 0) - 1 : Int32).toNatClampNeg)) + (S 39 ((S 37 0) - 1 : Int32).toNatClampNeg) : Int32).toNatClampNeg) 0 H locs _ h hP hD hS (lv_sub hl [9, 1, 0] rfl)
    · have h := h.2.2.2.2.2.2.2.2.2.2.2.2.2.1 h_in
      refine lv_tableIn (off := 264) (tgt := 347) hx hb dX12_goesByPart_83 (by rw [h_in]; decide) (by rw [h_in]; decide) (by rw [h_in]; decide) (by decide) ?_
      refine lv_aload_n hx hb dX12_goesByPart_347 rfl (lv_at hl 9 rfl) ?_
      refine va_get (D := D) (ci := 12) (v := .ref (q 42)) (C := RX12) (T := TX12) (N := 52) hx hb hts (fun _ h => List.mem_cons_of_mem _ (List.mem_append_right _ h)) hown hK hP 0 rfl rfl 42 (by decide) (hts (.fieldLink RX12 123 "TemplateForgeModel" "register" "[I") (List.mem_of_getElem? (i := 11) rfl)) (fun _ h9 => h9) rfl dX12_goesByPart_348 ?_
      refine lv_iload hx hb dX12_goesByPart_351 (lv_at hl 5 rfl) ?_
      refine lv_iload hx hb dX12_goesByPart_353 (lv_at hl 4 rfl) ?_
      refine lv_iadd hx hb dX12_goesByPart_355 ?_
      refine lv_aload_n hx hb dX12_goesByPart_356 rfl (lv_at hl 9 rfl) ?_
      refine va_get (D := D) (ci := 12) (v := .ref (q 12)) (C := RX12) (T := TX12) (N := 52) hx hb hts (fun _ h => List.mem_cons_of_mem _ (List.mem_append_right _ h)) hown hK hP 0 rfl rfl 12 (by decide) (hts (.fieldLink RX12 41 "TemplateForgeModel" "fields" "[I") (List.mem_of_getElem? (i := 32) rfl)) (fun _ h9 => h9) rfl dX12_goesByPart_357 ?_
      refine lv_iload hx hb dX12_goesByPart_360 (lv_at hl 3 rfl) ?_
      have hin_52 := h.1
      have h := h.2
      refine va_iald hx hb hK hP 11 0 rfl rfl hin_52 dX12_goesByPart_362 ?_
      have hin_53 := h.1
      have h := h.2
      refine va_iast hx hb hK hP hD hS 38 0 rfl rfl hin_53 dX12_goesByPart_363 (fun H locs hP hD hS => ?_)
      obtain ⟨S53, eS53⟩ : ∃ z, z = ms S23 42 (upd (S23 42) ((15 * ((S 37 0) - 1)) + (S 26 ((640 * (S 40 ((S 37 0) - 1 : Int32).toNatClampNeg)) + (S 39 ((S 37 0) - 1 : Int32).toNatClampNeg) : Int32).toNatClampNeg) : Int32).toNatClampNeg (S23 12 (S 27 ((640 * (S 40 ((S 37 0) - 1 : Int32).toNatClampNeg)) + (S 39 ((S 37 0) - 1 : Int32).toNatClampNeg) : Int32).toNatClampNeg : Int32).toNatClampNeg)) := ⟨_, rfl⟩
      have hP : va_P D vwCl (mW cI cZ h0 q S53) H := by rw [eS53]; exact hP
      have hD : va_D A (mW cI cZ h0 q S53) := by rw [eS53]; exact hD
      have h := h S53 eS53
      refine lv_goto (tgt := 649) hx hb dX12_goesByPart_364 (by decide) ?_
      exact J_649  S53 (S 29 ((640 * (S 40 ((S 37 0) - 1 : Int32).toNatClampNeg)) + (S 39 ((S 37 0) - 1 : Int32).toNatClampNeg) : Int32).toNatClampNeg) 0 H locs _ h hP hD hS (lv_sub hl [9, 1, 0] rfl)
    · have h := h.2.2.2.2.2.2.2.2.2.2.2.2.2.2.1 h_in
      refine lv_tableIn (off := 284) (tgt := 367) hx hb dX12_goesByPart_83 (by rw [h_in]; decide) (by rw [h_in]; decide) (by rw [h_in]; decide) (by decide) ?_
      refine lv_aload_n hx hb dX12_goesByPart_367 rfl (lv_at hl 9 rfl) ?_
      refine va_get (D := D) (ci := 12) (v := .ref (q 12)) (C := RX12) (T := TX12) (N := 52) hx hb hts (fun _ h => List.mem_cons_of_mem _ (List.mem_append_right _ h)) hown hK hP 0 rfl rfl 12 (by decide) (hts (.fieldLink RX12 41 "TemplateForgeModel" "fields" "[I") (List.mem_of_getElem? (i := 32) rfl)) (fun _ h9 => h9) rfl dX12_goesByPart_368 ?_
      refine lv_iload hx hb dX12_goesByPart_371 (lv_at hl 4 rfl) ?_
      refine lv_aload_n hx hb dX12_goesByPart_373 rfl (lv_at hl 9 rfl) ?_
      refine va_get (D := D) (ci := 12) (v := .ref (q 42)) (C := RX12) (T := TX12) (N := 52) hx hb hts (fun _ h => List.mem_cons_of_mem _ (List.mem_append_right _ h)) hown hK hP 0 rfl rfl 42 (by decide) (hts (.fieldLink RX12 123 "TemplateForgeModel" "register" "[I") (List.mem_of_getElem? (i := 11) rfl)) (fun _ h9 => h9) rfl dX12_goesByPart_374 ?_
      refine lv_iload hx hb dX12_goesByPart_377 (lv_at hl 5 rfl) ?_
      refine lv_iload hx hb dX12_goesByPart_379 (lv_at hl 3 rfl) ?_
      refine lv_iadd hx hb dX12_goesByPart_381 ?_
      have hin_54 := h.1
      have h := h.2
      refine va_iald hx hb hK hP 38 0 rfl rfl hin_54 dX12_goesByPart_382 ?_
      have hin_55 := h.1
      have h := h.2
      refine va_iast hx hb hK hP hD hS 11 0 rfl rfl hin_55 dX12_goesByPart_383 (fun H locs hP hD hS => ?_)
      obtain ⟨S55, eS55⟩ : ∃ z, z = ms S23 12 (upd (S23 12) (S 26 ((640 * (S 40 ((S 37 0) - 1 : Int32).toNatClampNeg)) + (S 39 ((S 37 0) - 1 : Int32).toNatClampNeg) : Int32).toNatClampNeg : Int32).toNatClampNeg (S23 42 ((15 * ((S 37 0) - 1)) + (S 27 ((640 * (S 40 ((S 37 0) - 1 : Int32).toNatClampNeg)) + (S 39 ((S 37 0) - 1 : Int32).toNatClampNeg) : Int32).toNatClampNeg) : Int32).toNatClampNeg)) := ⟨_, rfl⟩
      have hP : va_P D vwCl (mW cI cZ h0 q S55) H := by rw [eS55]; exact hP
      have hD : va_D A (mW cI cZ h0 q S55) := by rw [eS55]; exact hD
      have h := h S55 eS55
      refine lv_goto (tgt := 649) hx hb dX12_goesByPart_384 (by decide) ?_
      exact J_649  S55 (S 29 ((640 * (S 40 ((S 37 0) - 1 : Int32).toNatClampNeg)) + (S 39 ((S 37 0) - 1 : Int32).toNatClampNeg) : Int32).toNatClampNeg) 0 H locs _ h hP hD hS (lv_sub hl [9, 1, 0] rfl)
    · have h := h.2.2.2.2.2.2.2.2.2.2.2.2.2.2.2.1 h_in
      refine lv_tableIn (off := 304) (tgt := 387) hx hb dX12_goesByPart_83 (by rw [h_in]; decide) (by rw [h_in]; decide) (by rw [h_in]; decide) (by decide) ?_
      refine lv_aload_n hx hb dX12_goesByPart_387 rfl (lv_at hl 9 rfl) ?_
      refine lv_iload hx hb dX12_goesByPart_388 (lv_at hl 4 rfl) ?_
      refine lv_aload_n hx hb dX12_goesByPart_390 rfl (lv_at hl 9 rfl) ?_
      refine va_get (D := D) (ci := 12) (v := .ref (q 42)) (C := RX12) (T := TX12) (N := 52) hx hb hts (fun _ h => List.mem_cons_of_mem _ (List.mem_append_right _ h)) hown hK hP 0 rfl rfl 42 (by decide) (hts (.fieldLink RX12 123 "TemplateForgeModel" "register" "[I") (List.mem_of_getElem? (i := 11) rfl)) (fun _ h9 => h9) rfl dX12_goesByPart_391 ?_
      refine lv_iload hx hb dX12_goesByPart_394 (lv_at hl 5 rfl) ?_
      refine lv_iload hx hb dX12_goesByPart_396 (lv_at hl 3 rfl) ?_
      refine lv_iadd hx hb dX12_goesByPart_398 ?_
      have hin_56 := h.1
      have h := h.2
      refine va_iald hx hb hK hP 38 0 rfl rfl hin_56 dX12_goesByPart_399 ?_
      have hFc := zm_free hD hS hA
      refine va_calli (va_runV (As := [.int (S 26 ((640 * (S 40 ((S 37 0) - 1 : Int32).toNatClampNeg)) + (S 39 ((S 37 0) - 1 : Int32).toNatClampNeg) : Int32).toNatClampNeg), .int (S23 42 ((15 * ((S 37 0) - 1)) + (S 27 ((640 * (S 40 ((S 37 0) - 1 : Int32).toNatClampNeg)) + (S 39 ((S 37 0) - 1 : Int32).toNatClampNeg) : Int32).toNatClampNeg) : Int32).toNatClampNeg)]) (rest := []) ⟨hx, hb, hml, hown, hts⟩ (zd_X12_makesRow l D cI cZ cP cF h0 q S23 (S 26 ((640 * (S 40 ((S 37 0) - 1 : Int32).toNatClampNeg)) + (S 39 ((S 37 0) - 1 : Int32).toNatClampNeg) : Int32).toNatClampNeg) (S23 42 ((15 * ((S 37 0) - 1)) + (S 27 ((640 * (S 40 ((S 37 0) - 1 : Int32).toNatClampNeg)) + (S 39 ((S 37 0) - 1 : Int32).toNatClampNeg) : Int32).toNatClampNeg) : Int32).toNatClampNeg) H.size _ h) (cwV 2 hts zg_zd_X12_goesByPart_zd_X12_makesRow_269 rfl rfl rfl (by decide +kernel) ⟨Nat.le_of_ble_eq_true rfl, Nat.le_of_ble_eq_true rfl⟩) ⟨zBW, va_recv hK hP (ci := 12) (q0 := 0) rfl rfl, fun U hU hW => ⟨rfl, by rw [hU], by rw [hU]; exact hP, hE.warm hW, hD.weaken (fun _ _ _ _ => trivial)⟩⟩ rfl rfl hl.1 rfl (lv_room (Nat.le_of_ble_eq_true rfl)) dX12_goesByPart_400 ⟨Nat.le_of_ble_eq_true rfl, Nat.le_of_ble_eq_true rfl⟩) hS (fun q _ h => hFc q h) hFc (fun r57 S57 t H locs ht hvm h hB hz1 hk1 hS => ?_)
      obtain ⟨hP, hD1⟩ := hB
      rw [ht] at hP
      have hD := hD1.weaken (fun k q _ hq => hFc q.1 hq)
      refine lv_istore (lv' := [(9, .int r57), (8, .int (S 29 ((640 * (S 40 ((S 37 0) - 1 : Int32).toNatClampNeg)) + (S 39 ((S 37 0) - 1 : Int32).toNatClampNeg) : Int32).toNatClampNeg)), (7, .int (S 28 ((640 * (S 40 ((S 37 0) - 1 : Int32).toNatClampNeg)) + (S 39 ((S 37 0) - 1 : Int32).toNatClampNeg) : Int32).toNatClampNeg)), (6, .int (S 27 ((640 * (S 40 ((S 37 0) - 1 : Int32).toNatClampNeg)) + (S 39 ((S 37 0) - 1 : Int32).toNatClampNeg) : Int32).toNatClampNeg)), (5, .int (S 26 ((640 * (S 40 ((S 37 0) - 1 : Int32).toNatClampNeg)) + (S 39 ((S 37 0) - 1 : Int32).toNatClampNeg) : Int32).toNatClampNeg)), (4, .int (15 * ((S 37 0) - 1))), (3, .int ((640 * (S 40 ((S 37 0) - 1 : Int32).toNatClampNeg)) + (S 39 ((S 37 0) - 1 : Int32).toNatClampNeg))), (2, .int (S 39 ((S 37 0) - 1 : Int32).toNatClampNeg)), (1, .int ((S 37 0) - 1)), (0, .ref h0)]) hx hb dX12_goesByPart_403 hl (by decide) rfl (fun ls hl => ?_)
      refine lv_goto (tgt := 649) hx hb dX12_goesByPart_405 (by decide) ?_
      exact J_649  S57 (S 29 ((640 * (S 40 ((S 37 0) - 1 : Int32).toNatClampNeg)) + (S 39 ((S 37 0) - 1 : Int32).toNatClampNeg) : Int32).toNatClampNeg) r57 H locs _ h hP hD hS (lv_sub hl [9, 1, 0] rfl)
    · have h := h.2.2.2.2.2.2.2.2.2.2.2.2.2.2.2.2.1 h_in
      refine lv_tableIn (off := 325) (tgt := 408) hx hb dX12_goesByPart_83 (by rw [h_in]; decide) (by rw [h_in]; decide) (by rw [h_in]; decide) (by decide) ?_
      refine lv_aload_n hx hb dX12_goesByPart_408 rfl (lv_at hl 9 rfl) ?_
      refine lv_iload hx hb dX12_goesByPart_409 (lv_at hl 3 rfl) ?_
      refine lv_aload_n hx hb dX12_goesByPart_411 rfl (lv_at hl 9 rfl) ?_
      refine va_get (D := D) (ci := 12) (v := .ref (q 42)) (C := RX12) (T := TX12) (N := 52) hx hb hts (fun _ h => List.mem_cons_of_mem _ (List.mem_append_right _ h)) hown hK hP 0 rfl rfl 42 (by decide) (hts (.fieldLink RX12 123 "TemplateForgeModel" "register" "[I") (List.mem_of_getElem? (i := 11) rfl)) (fun _ h9 => h9) rfl dX12_goesByPart_412 ?_
      refine lv_iload hx hb dX12_goesByPart_415 (lv_at hl 5 rfl) ?_
      refine lv_iload hx hb dX12_goesByPart_417 (lv_at hl 2 rfl) ?_
      refine lv_iadd hx hb dX12_goesByPart_419 ?_
      have hin_58 := h.1
      have h := h.2
      refine va_iald hx hb hK hP 38 0 rfl rfl hin_58 dX12_goesByPart_420 ?_
      refine vp_callSi (va_Run.run (va_runV (As := [.int (S 27 ((640 * (S 40 ((S 37 0) - 1 : Int32).toNatClampNeg)) + (S 39 ((S 37 0) - 1 : Int32).toNatClampNeg) : Int32).toNatClampNeg), .int (S23 42 ((15 * ((S 37 0) - 1)) + (S 28 ((640 * (S 40 ((S 37 0) - 1 : Int32).toNatClampNeg)) + (S 39 ((S 37 0) - 1 : Int32).toNatClampNeg) : Int32).toNatClampNeg) : Int32).toNatClampNeg)]) (rest := []) ⟨hx, hb, hml, hown, hts⟩ (zd_X12_refuses l D cI cZ cP cF h0 q S23 (S 27 ((640 * (S 40 ((S 37 0) - 1 : Int32).toNatClampNeg)) + (S 39 ((S 37 0) - 1 : Int32).toNatClampNeg) : Int32).toNatClampNeg) (S23 42 ((15 * ((S 37 0) - 1)) + (S 28 ((640 * (S 40 ((S 37 0) - 1 : Int32).toNatClampNeg)) + (S 39 ((S 37 0) - 1 : Int32).toNatClampNeg) : Int32).toNatClampNeg) : Int32).toNatClampNeg)  _ h) (cwV 2 hts zg_zd_X12_goesByPart_zd_X12_refuses_272 rfl rfl rfl (by decide +kernel) ⟨Nat.le_of_ble_eq_true rfl, Nat.le_of_ble_eq_true rfl⟩) ⟨zBR, va_recv hK hP (ci := 12) (q0 := 0) rfl rfl, fun U hU hW => ⟨rfl, by rw [hU]; exact hP, hE.warm hW⟩⟩ rfl rfl hl.1 rfl (lv_room (Nat.le_of_ble_eq_true rfl)) dX12_goesByPart_421 ⟨Nat.le_of_ble_eq_true rfl, Nat.le_of_ble_eq_true rfl⟩)) (fun r59 h => ?_)
      refine lv_istore (lv' := [(9, .int r59), (8, .int (S 29 ((640 * (S 40 ((S 37 0) - 1 : Int32).toNatClampNeg)) + (S 39 ((S 37 0) - 1 : Int32).toNatClampNeg) : Int32).toNatClampNeg)), (7, .int (S 28 ((640 * (S 40 ((S 37 0) - 1 : Int32).toNatClampNeg)) + (S 39 ((S 37 0) - 1 : Int32).toNatClampNeg) : Int32).toNatClampNeg)), (6, .int (S 27 ((640 * (S 40 ((S 37 0) - 1 : Int32).toNatClampNeg)) + (S 39 ((S 37 0) - 1 : Int32).toNatClampNeg) : Int32).toNatClampNeg)), (5, .int (S 26 ((640 * (S 40 ((S 37 0) - 1 : Int32).toNatClampNeg)) + (S 39 ((S 37 0) - 1 : Int32).toNatClampNeg) : Int32).toNatClampNeg)), (4, .int (15 * ((S 37 0) - 1))), (3, .int ((640 * (S 40 ((S 37 0) - 1 : Int32).toNatClampNeg)) + (S 39 ((S 37 0) - 1 : Int32).toNatClampNeg))), (2, .int (S 39 ((S 37 0) - 1 : Int32).toNatClampNeg)), (1, .int ((S 37 0) - 1)), (0, .ref h0)]) hx hb dX12_goesByPart_424 hl (by decide) rfl (fun ls hl => ?_)
      refine lv_iload hx hb dX12_goesByPart_426 (lv_at hl 0 rfl) ?_
      refine lv_if_ne (tgt := 649) hx hb dX12_goesByPart_428 (by decide) (fun c_60 => ?_) (fun c_60 => ?_)
      · have h := h.1 c_60
        exact J_649  S23 (S 29 ((640 * (S 40 ((S 37 0) - 1 : Int32).toNatClampNeg)) + (S 39 ((S 37 0) - 1 : Int32).toNatClampNeg) : Int32).toNatClampNeg) r59 H locs _ h hP hD hS (lv_sub hl [9, 1, 0] rfl)
      · have h := h.2 c_60
        refine lv_aload_n hx hb dX12_goesByPart_431 rfl (lv_at hl 9 rfl) ?_
        refine va_get (D := D) (ci := 12) (v := .ref (q 42)) (C := RX12) (T := TX12) (N := 52) hx hb hts (fun _ h => List.mem_cons_of_mem _ (List.mem_append_right _ h)) hown hK hP 0 rfl rfl 42 (by decide) (hts (.fieldLink RX12 123 "TemplateForgeModel" "register" "[I") (List.mem_of_getElem? (i := 11) rfl)) (fun _ h9 => h9) rfl dX12_goesByPart_432 ?_
        refine lv_iload hx hb dX12_goesByPart_435 (lv_at hl 5 rfl) ?_
        refine lv_iload hx hb dX12_goesByPart_437 (lv_at hl 4 rfl) ?_
        refine lv_iadd hx hb dX12_goesByPart_439 ?_
        refine lv_aload_n hx hb dX12_goesByPart_440 rfl (lv_at hl 9 rfl) ?_
        refine va_get (D := D) (ci := 12) (v := .ref (q 14)) (C := RX12) (T := TX12) (N := 52) hx hb hts (fun _ h => List.mem_cons_of_mem _ (List.mem_append_right _ h)) hown hK hP 0 rfl rfl 14 (by decide) (hts (.fieldLink RX12 47 "TemplateForgeModel" "rows" "[I") (List.mem_of_getElem? (i := 122) rfl)) (fun _ h9 => h9) rfl dX12_goesByPart_441 ?_
        refine lv_bipush (v := 20) hx hb dX12_goesByPart_444 (by decide) ?_
        refine lv_iload hx hb dX12_goesByPart_446 (lv_at hl 3 rfl) ?_
        refine lv_imul hx hb dX12_goesByPart_448 ?_
        refine lv_aload_n hx hb dX12_goesByPart_449 rfl (lv_at hl 9 rfl) ?_
        refine va_get (D := D) (ci := 12) (v := .ref (q 42)) (C := RX12) (T := TX12) (N := 52) hx hb hts (fun _ h => List.mem_cons_of_mem _ (List.mem_append_right _ h)) hown hK hP 0 rfl rfl 42 (by decide) (hts (.fieldLink RX12 123 "TemplateForgeModel" "register" "[I") (List.mem_of_getElem? (i := 11) rfl)) (fun _ h9 => h9) rfl dX12_goesByPart_450 ?_
        refine lv_iload hx hb dX12_goesByPart_453 (lv_at hl 5 rfl) ?_
        refine lv_iload hx hb dX12_goesByPart_455 (lv_at hl 2 rfl) ?_
        refine lv_iadd hx hb dX12_goesByPart_457 ?_
        have hin_61 := h.1
        have h := h.2
        refine va_iald hx hb hK hP 38 0 rfl rfl hin_61 dX12_goesByPart_458 ?_
        refine lv_iadd hx hb dX12_goesByPart_459 ?_
        have hin_62 := h.1
        have h := h.2
        refine va_iald hx hb hK hP 13 0 rfl rfl hin_62 dX12_goesByPart_460 ?_
        have hin_63 := h.1
        have h := h.2
        refine va_iast hx hb hK hP hD hS 38 0 rfl rfl hin_63 dX12_goesByPart_461 (fun H locs hP hD hS => ?_)
        obtain ⟨S63, eS63⟩ : ∃ z, z = ms S23 42 (upd (S23 42) ((15 * ((S 37 0) - 1)) + (S 26 ((640 * (S 40 ((S 37 0) - 1 : Int32).toNatClampNeg)) + (S 39 ((S 37 0) - 1 : Int32).toNatClampNeg) : Int32).toNatClampNeg) : Int32).toNatClampNeg (S23 14 ((20 * (S 27 ((640 * (S 40 ((S 37 0) - 1 : Int32).toNatClampNeg)) + (S 39 ((S 37 0) - 1 : Int32).toNatClampNeg) : Int32).toNatClampNeg)) + (S23 42 ((15 * ((S 37 0) - 1)) + (S 28 ((640 * (S 40 ((S 37 0) - 1 : Int32).toNatClampNeg)) + (S 39 ((S 37 0) - 1 : Int32).toNatClampNeg) : Int32).toNatClampNeg) : Int32).toNatClampNeg) : Int32).toNatClampNeg)) := ⟨_, rfl⟩
        have hP : va_P D vwCl (mW cI cZ h0 q S63) H := by rw [eS63]; exact hP
        have hD : va_D A (mW cI cZ h0 q S63) := by rw [eS63]; exact hD
        have h := h S63 eS63
        refine lv_goto (tgt := 649) hx hb dX12_goesByPart_462 (by decide) ?_
        exact J_649  S63 (S 29 ((640 * (S 40 ((S 37 0) - 1 : Int32).toNatClampNeg)) + (S 39 ((S 37 0) - 1 : Int32).toNatClampNeg) : Int32).toNatClampNeg) r59 H locs _ h hP hD hS (lv_sub hl [9, 1, 0] rfl)
    · have h := h.2.2.2.2.2.2.2.2.2.2.2.2.2.2.2.2.2.1 h_in
      refine lv_tableIn (off := 382) (tgt := 465) hx hb dX12_goesByPart_83 (by rw [h_in]; decide) (by rw [h_in]; decide) (by rw [h_in]; decide) (by decide) ?_
      refine lv_aload_n hx hb dX12_goesByPart_465 rfl (lv_at hl 9 rfl) ?_
      refine lv_iload hx hb dX12_goesByPart_466 (lv_at hl 4 rfl) ?_
      refine lv_aload_n hx hb dX12_goesByPart_468 rfl (lv_at hl 9 rfl) ?_
      refine va_get (D := D) (ci := 12) (v := .ref (q 42)) (C := RX12) (T := TX12) (N := 52) hx hb hts (fun _ h => List.mem_cons_of_mem _ (List.mem_append_right _ h)) hown hK hP 0 rfl rfl 42 (by decide) (hts (.fieldLink RX12 123 "TemplateForgeModel" "register" "[I") (List.mem_of_getElem? (i := 11) rfl)) (fun _ h9 => h9) rfl dX12_goesByPart_469 ?_
      refine lv_iload hx hb dX12_goesByPart_472 (lv_at hl 5 rfl) ?_
      refine lv_iload hx hb dX12_goesByPart_474 (lv_at hl 3 rfl) ?_
      refine lv_iadd hx hb dX12_goesByPart_476 ?_
      have hin_64 := h.1
      have h := h.2
      refine va_iald hx hb hK hP 38 0 rfl rfl hin_64 dX12_goesByPart_477 ?_
      refine vp_callSi (va_Run.run (va_runV (As := [.int (S 26 ((640 * (S 40 ((S 37 0) - 1 : Int32).toNatClampNeg)) + (S 39 ((S 37 0) - 1 : Int32).toNatClampNeg) : Int32).toNatClampNeg), .int (S23 42 ((15 * ((S 37 0) - 1)) + (S 27 ((640 * (S 40 ((S 37 0) - 1 : Int32).toNatClampNeg)) + (S 39 ((S 37 0) - 1 : Int32).toNatClampNeg) : Int32).toNatClampNeg) : Int32).toNatClampNeg)]) (rest := []) ⟨hx, hb, hml, hown, hts⟩ (zd_X12_refuses l D cI cZ cP cF h0 q S23 (S 26 ((640 * (S 40 ((S 37 0) - 1 : Int32).toNatClampNeg)) + (S 39 ((S 37 0) - 1 : Int32).toNatClampNeg) : Int32).toNatClampNeg) (S23 42 ((15 * ((S 37 0) - 1)) + (S 27 ((640 * (S 40 ((S 37 0) - 1 : Int32).toNatClampNeg)) + (S 39 ((S 37 0) - 1 : Int32).toNatClampNeg) : Int32).toNatClampNeg) : Int32).toNatClampNeg)  _ h) (cwV 2 hts zg_zd_X12_goesByPart_zd_X12_refuses_272 rfl rfl rfl (by decide +kernel) ⟨Nat.le_of_ble_eq_true rfl, Nat.le_of_ble_eq_true rfl⟩) ⟨zBR, va_recv hK hP (ci := 12) (q0 := 0) rfl rfl, fun U hU hW => ⟨rfl, by rw [hU]; exact hP, hE.warm hW⟩⟩ rfl rfl hl.1 rfl (lv_room (Nat.le_of_ble_eq_true rfl)) dX12_goesByPart_478 ⟨Nat.le_of_ble_eq_true rfl, Nat.le_of_ble_eq_true rfl⟩)) (fun r65 h => ?_)
      refine lv_istore (lv' := [(9, .int r65), (8, .int (S 29 ((640 * (S 40 ((S 37 0) - 1 : Int32).toNatClampNeg)) + (S 39 ((S 37 0) - 1 : Int32).toNatClampNeg) : Int32).toNatClampNeg)), (7, .int (S 28 ((640 * (S 40 ((S 37 0) - 1 : Int32).toNatClampNeg)) + (S 39 ((S 37 0) - 1 : Int32).toNatClampNeg) : Int32).toNatClampNeg)), (6, .int (S 27 ((640 * (S 40 ((S 37 0) - 1 : Int32).toNatClampNeg)) + (S 39 ((S 37 0) - 1 : Int32).toNatClampNeg) : Int32).toNatClampNeg)), (5, .int (S 26 ((640 * (S 40 ((S 37 0) - 1 : Int32).toNatClampNeg)) + (S 39 ((S 37 0) - 1 : Int32).toNatClampNeg) : Int32).toNatClampNeg)), (4, .int (15 * ((S 37 0) - 1))), (3, .int ((640 * (S 40 ((S 37 0) - 1 : Int32).toNatClampNeg)) + (S 39 ((S 37 0) - 1 : Int32).toNatClampNeg))), (2, .int (S 39 ((S 37 0) - 1 : Int32).toNatClampNeg)), (1, .int ((S 37 0) - 1)), (0, .ref h0)]) hx hb dX12_goesByPart_481 hl (by decide) rfl (fun ls hl => ?_)
      refine lv_iload hx hb dX12_goesByPart_483 (lv_at hl 0 rfl) ?_
      refine lv_if_ne (tgt := 649) hx hb dX12_goesByPart_485 (by decide) (fun c_66 => ?_) (fun c_66 => ?_)
      · have h := h.1 c_66
        exact J_649  S23 (S 29 ((640 * (S 40 ((S 37 0) - 1 : Int32).toNatClampNeg)) + (S 39 ((S 37 0) - 1 : Int32).toNatClampNeg) : Int32).toNatClampNeg) r65 H locs _ h hP hD hS (lv_sub hl [9, 1, 0] rfl)
      · have h := h.2 c_66
        refine lv_aload_n hx hb dX12_goesByPart_488 rfl (lv_at hl 9 rfl) ?_
        refine va_get (D := D) (ci := 12) (v := .ref (q 14)) (C := RX12) (T := TX12) (N := 52) hx hb hts (fun _ h => List.mem_cons_of_mem _ (List.mem_append_right _ h)) hown hK hP 0 rfl rfl 14 (by decide) (hts (.fieldLink RX12 47 "TemplateForgeModel" "rows" "[I") (List.mem_of_getElem? (i := 122) rfl)) (fun _ h9 => h9) rfl dX12_goesByPart_489 ?_
        refine lv_bipush (v := 20) hx hb dX12_goesByPart_492 (by decide) ?_
        refine lv_iload hx hb dX12_goesByPart_494 (lv_at hl 4 rfl) ?_
        refine lv_imul hx hb dX12_goesByPart_496 ?_
        refine lv_aload_n hx hb dX12_goesByPart_497 rfl (lv_at hl 9 rfl) ?_
        refine va_get (D := D) (ci := 12) (v := .ref (q 42)) (C := RX12) (T := TX12) (N := 52) hx hb hts (fun _ h => List.mem_cons_of_mem _ (List.mem_append_right _ h)) hown hK hP 0 rfl rfl 42 (by decide) (hts (.fieldLink RX12 123 "TemplateForgeModel" "register" "[I") (List.mem_of_getElem? (i := 11) rfl)) (fun _ h9 => h9) rfl dX12_goesByPart_498 ?_
        refine lv_iload hx hb dX12_goesByPart_501 (lv_at hl 5 rfl) ?_
        refine lv_iload hx hb dX12_goesByPart_503 (lv_at hl 3 rfl) ?_
        refine lv_iadd hx hb dX12_goesByPart_505 ?_
        have hin_67 := h.1
        have h := h.2
        refine va_iald hx hb hK hP 38 0 rfl rfl hin_67 dX12_goesByPart_506 ?_
        refine lv_iadd hx hb dX12_goesByPart_507 ?_
        refine lv_aload_n hx hb dX12_goesByPart_508 rfl (lv_at hl 9 rfl) ?_
        refine va_get (D := D) (ci := 12) (v := .ref (q 42)) (C := RX12) (T := TX12) (N := 52) hx hb hts (fun _ h => List.mem_cons_of_mem _ (List.mem_append_right _ h)) hown hK hP 0 rfl rfl 42 (by decide) (hts (.fieldLink RX12 123 "TemplateForgeModel" "register" "[I") (List.mem_of_getElem? (i := 11) rfl)) (fun _ h9 => h9) rfl dX12_goesByPart_509 ?_
        refine lv_iload hx hb dX12_goesByPart_512 (lv_at hl 5 rfl) ?_
        refine lv_iload hx hb dX12_goesByPart_514 (lv_at hl 2 rfl) ?_
        refine lv_iadd hx hb dX12_goesByPart_516 ?_
        have hin_68 := h.1
        have h := h.2
        refine va_iald hx hb hK hP 38 0 rfl rfl hin_68 dX12_goesByPart_517 ?_
        have hin_69 := h.1
        have h := h.2
        refine va_iast hx hb hK hP hD hS 13 0 rfl rfl hin_69 dX12_goesByPart_518 (fun H locs hP hD hS => ?_)
        obtain ⟨S69, eS69⟩ : ∃ z, z = ms S23 14 (upd (S23 14) ((20 * (S 26 ((640 * (S 40 ((S 37 0) - 1 : Int32).toNatClampNeg)) + (S 39 ((S 37 0) - 1 : Int32).toNatClampNeg) : Int32).toNatClampNeg)) + (S23 42 ((15 * ((S 37 0) - 1)) + (S 27 ((640 * (S 40 ((S 37 0) - 1 : Int32).toNatClampNeg)) + (S 39 ((S 37 0) - 1 : Int32).toNatClampNeg) : Int32).toNatClampNeg) : Int32).toNatClampNeg) : Int32).toNatClampNeg (S23 42 ((15 * ((S 37 0) - 1)) + (S 28 ((640 * (S 40 ((S 37 0) - 1 : Int32).toNatClampNeg)) + (S 39 ((S 37 0) - 1 : Int32).toNatClampNeg) : Int32).toNatClampNeg) : Int32).toNatClampNeg)) := ⟨_, rfl⟩
        have hP : va_P D vwCl (mW cI cZ h0 q S69) H := by rw [eS69]; exact hP
        have hD : va_D A (mW cI cZ h0 q S69) := by rw [eS69]; exact hD
        have h := h S69 eS69
        refine lv_goto (tgt := 649) hx hb dX12_goesByPart_519 (by decide) ?_
        exact J_649  S69 (S 29 ((640 * (S 40 ((S 37 0) - 1 : Int32).toNatClampNeg)) + (S 39 ((S 37 0) - 1 : Int32).toNatClampNeg) : Int32).toNatClampNeg) r65 H locs _ h hP hD hS (lv_sub hl [9, 1, 0] rfl)
    · have h := h.2.2.2.2.2.2.2.2.2.2.2.2.2.2.2.2.2.2.1 h_in
      refine lv_tableIn (off := 439) (tgt := 522) hx hb dX12_goesByPart_83 (by rw [h_in]; decide) (by rw [h_in]; decide) (by rw [h_in]; decide) (by decide) ?_
      refine lv_aload_n hx hb dX12_goesByPart_522 rfl (lv_at hl 9 rfl) ?_
      refine va_get (D := D) (ci := 12) (v := .ref (q 42)) (C := RX12) (T := TX12) (N := 52) hx hb hts (fun _ h => List.mem_cons_of_mem _ (List.mem_append_right _ h)) hown hK hP 0 rfl rfl 42 (by decide) (hts (.fieldLink RX12 123 "TemplateForgeModel" "register" "[I") (List.mem_of_getElem? (i := 11) rfl)) (fun _ h9 => h9) rfl dX12_goesByPart_523 ?_
      refine lv_iload hx hb dX12_goesByPart_526 (lv_at hl 5 rfl) ?_
      refine lv_iload hx hb dX12_goesByPart_528 (lv_at hl 4 rfl) ?_
      refine lv_iadd hx hb dX12_goesByPart_530 ?_
      have hin_70 := h.1
      have h := h.2
      refine va_iald hx hb hK hP 38 0 rfl rfl hin_70 dX12_goesByPart_531 ?_
      refine lv_iload hx hb dX12_goesByPart_532 (lv_at hl 3 rfl) ?_
      refine lv_icmp_eq (tgt := 649) hx hb dX12_goesByPart_534 (by decide) (fun c_71 => ?_) (fun c_71 => ?_)
      · have h := h.1 c_71
        exact J_649  S23 (S 29 ((640 * (S 40 ((S 37 0) - 1 : Int32).toNatClampNeg)) + (S 39 ((S 37 0) - 1 : Int32).toNatClampNeg) : Int32).toNatClampNeg) 0 H locs _ h hP hD hS (lv_sub hl [9, 1, 0] rfl)
      · have h := h.2 c_71
        refine lv_aload_n hx hb dX12_goesByPart_537 rfl (lv_at hl 9 rfl) ?_
        refine lv_iload_n hx hb dX12_goesByPart_538 rfl (lv_at hl 8 rfl) ?_
        refine lv_iload_n hx hb dX12_goesByPart_539 rfl (lv_at hl 6 rfl) ?_
        refine lv_iload hx hb dX12_goesByPart_540 (lv_at hl 4 rfl) ?_
        have hFc := zm_free hD hS hA
        refine va_callv (va_runV (As := [.int ((S 37 0) - 1), .int ((640 * (S 40 ((S 37 0) - 1 : Int32).toNatClampNeg)) + (S 39 ((S 37 0) - 1 : Int32).toNatClampNeg)), .int (S 26 ((640 * (S 40 ((S 37 0) - 1 : Int32).toNatClampNeg)) + (S 39 ((S 37 0) - 1 : Int32).toNatClampNeg) : Int32).toNatClampNeg)]) (rest := []) ⟨hx, hb, hml, hown, hts⟩ (zd_X12_fails l D cI cZ cP cF h0 q S23 ((S 37 0) - 1) ((640 * (S 40 ((S 37 0) - 1 : Int32).toNatClampNeg)) + (S 39 ((S 37 0) - 1 : Int32).toNatClampNeg)) (S 26 ((640 * (S 40 ((S 37 0) - 1 : Int32).toNatClampNeg)) + (S 39 ((S 37 0) - 1 : Int32).toNatClampNeg) : Int32).toNatClampNeg) H.size _ h) (cwV 3 hts zg_zd_X12_goesByPart_zd_X12_fails_281 rfl rfl rfl (by decide +kernel) ⟨Nat.le_of_ble_eq_true rfl, Nat.le_of_ble_eq_true rfl⟩) ⟨zBW, va_recv hK hP (ci := 12) (q0 := 0) rfl rfl, fun U hU hW => ⟨rfl, by rw [hU], by rw [hU]; exact hP, hE.warm hW, hD.weaken (fun _ _ _ _ => trivial)⟩⟩ rfl rfl hl.1 rfl (lv_room (Nat.le_of_ble_eq_true rfl)) dX12_goesByPart_542 ⟨Nat.le_of_ble_eq_true rfl, Nat.le_of_ble_eq_true rfl⟩) hS (fun q _ h => hFc q h) hFc (fun S72 t H locs ht hvm h hB hz1 hk1 hS => ?_)
        obtain ⟨hP, hD1⟩ := hB
        rw [ht] at hP
        have hD := hD1.weaken (fun k q _ hq => hFc q.1 hq)
        refine lv_goto (tgt := 649) hx hb dX12_goesByPart_545 (by decide) ?_
        exact J_649  S72 (S 29 ((640 * (S 40 ((S 37 0) - 1 : Int32).toNatClampNeg)) + (S 39 ((S 37 0) - 1 : Int32).toNatClampNeg) : Int32).toNatClampNeg) 0 H locs _ h hP hD hS (lv_sub hl [9, 1, 0] rfl)
    · have h := h.2.2.2.2.2.2.2.2.2.2.2.2.2.2.2.2.2.2.2 h_in
      refine lv_tableIn (off := 465) (tgt := 548) hx hb dX12_goesByPart_83 (by rw [h_in]; decide) (by rw [h_in]; decide) (by rw [h_in]; decide) (by decide) ?_
      refine lv_aload_n hx hb dX12_goesByPart_548 rfl (lv_at hl 9 rfl) ?_
      refine va_get (D := D) (ci := 12) (v := .ref (q 12)) (C := RX12) (T := TX12) (N := 52) hx hb hts (fun _ h => List.mem_cons_of_mem _ (List.mem_append_right _ h)) hown hK hP 0 rfl rfl 12 (by decide) (hts (.fieldLink RX12 41 "TemplateForgeModel" "fields" "[I") (List.mem_of_getElem? (i := 32) rfl)) (fun _ h9 => h9) rfl dX12_goesByPart_549 ?_
      refine lv_iload hx hb dX12_goesByPart_552 (lv_at hl 4 rfl) ?_
      have hin_73 := h.1
      have h := h.2
      refine va_iald hx hb hK hP 11 0 rfl rfl hin_73 dX12_goesByPart_554 ?_
      refine lv_iload hx hb dX12_goesByPart_555 (lv_at hl 3 rfl) ?_
      refine lv_icmp_eq (tgt := 649) hx hb dX12_goesByPart_557 (by decide) (fun c_74 => ?_) (fun c_74 => ?_)
      · have h := h.1 c_74
        exact J_649  S23 (S 29 ((640 * (S 40 ((S 37 0) - 1 : Int32).toNatClampNeg)) + (S 39 ((S 37 0) - 1 : Int32).toNatClampNeg) : Int32).toNatClampNeg) 0 H locs _ h hP hD hS (lv_sub hl [9, 1, 0] rfl)
      · have h := h.2 c_74
        refine lv_aload_n hx hb dX12_goesByPart_560 rfl (lv_at hl 9 rfl) ?_
        refine lv_iload_n hx hb dX12_goesByPart_561 rfl (lv_at hl 8 rfl) ?_
        refine lv_iload_n hx hb dX12_goesByPart_562 rfl (lv_at hl 6 rfl) ?_
        refine lv_iconst (v := 3) hx hb dX12_goesByPart_563 (by decide) ?_
        refine lv_iload hx hb dX12_goesByPart_564 (lv_at hl 4 rfl) ?_
        refine lv_iadd hx hb dX12_goesByPart_566 ?_
        have hFc := zm_free hD hS hA
        refine va_callv (va_runV (As := [.int ((S 37 0) - 1), .int ((640 * (S 40 ((S 37 0) - 1 : Int32).toNatClampNeg)) + (S 39 ((S 37 0) - 1 : Int32).toNatClampNeg)), .int (3 + (S 26 ((640 * (S 40 ((S 37 0) - 1 : Int32).toNatClampNeg)) + (S 39 ((S 37 0) - 1 : Int32).toNatClampNeg) : Int32).toNatClampNeg))]) (rest := []) ⟨hx, hb, hml, hown, hts⟩ (zd_X12_fails l D cI cZ cP cF h0 q S23 ((S 37 0) - 1) ((640 * (S 40 ((S 37 0) - 1 : Int32).toNatClampNeg)) + (S 39 ((S 37 0) - 1 : Int32).toNatClampNeg)) (3 + (S 26 ((640 * (S 40 ((S 37 0) - 1 : Int32).toNatClampNeg)) + (S 39 ((S 37 0) - 1 : Int32).toNatClampNeg) : Int32).toNatClampNeg)) H.size _ h) (cwV 3 hts zg_zd_X12_goesByPart_zd_X12_fails_281 rfl rfl rfl (by decide +kernel) ⟨Nat.le_of_ble_eq_true rfl, Nat.le_of_ble_eq_true rfl⟩) ⟨zBW, va_recv hK hP (ci := 12) (q0 := 0) rfl rfl, fun U hU hW => ⟨rfl, by rw [hU], by rw [hU]; exact hP, hE.warm hW, hD.weaken (fun _ _ _ _ => trivial)⟩⟩ rfl rfl hl.1 rfl (lv_room (Nat.le_of_ble_eq_true rfl)) dX12_goesByPart_567 ⟨Nat.le_of_ble_eq_true rfl, Nat.le_of_ble_eq_true rfl⟩) hS (fun q _ h => hFc q h) hFc (fun S75 t H locs ht hvm h hB hz1 hk1 hS => ?_)
        obtain ⟨hP, hD1⟩ := hB
        rw [ht] at hP
        have hD := hD1.weaken (fun k q _ hq => hFc q.1 hq)
        refine lv_goto (tgt := 649) hx hb dX12_goesByPart_570 (by decide) ?_
        exact J_649  S75 (S 29 ((640 * (S 40 ((S 37 0) - 1 : Int32).toNatClampNeg)) + (S 39 ((S 37 0) - 1 : Int32).toNatClampNeg) : Int32).toNatClampNeg) 0 H locs _ h hP hD hS (lv_sub hl [9, 1, 0] rfl)
  exact key _ _ hP va_S.rf
