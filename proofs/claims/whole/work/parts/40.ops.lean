theorem op_hung {k : Bool} {h : lh_HS} (L : lh_INV k h) (a : Int32) : lh_J (gX8_hung h a) ∧ fX8_hung h a = fX9_hung (gX8_hung h a) a ∧ lh_INV k (gX9_hung (gX8_hung h a) a) := sorry
theorem op_worth {k : Bool} {h : lh_HS} (L : lh_INV k h) : lh_J (gX8_worth h) ∧ fX8_worth h = fX9_worth (gX8_worth h) ∧ lh_INV k (gX9_worth (gX8_worth h)) := sorry
theorem op_spares {k : Bool} {h : lh_HS} (L : lh_INV k h) (a : Int32) : lh_J (gX8_spares h a) ∧ fX8_spares h a = fX9_spares (gX8_spares h a) a ∧ lh_INV k (gX9_spares (gX8_spares h a) a) := sorry
theorem op_hang {k : Bool} {h : lh_HS} (L : lh_INV k h) : (lh_J (gX8_hang h) ∧ (gX9_findHang (gX8_hang h) 38 2 + lh_cnt9 (gX9_findHang (gX8_hang h)) (lh_m (gX8_hang h) 4) 0 0 ≤ 30 → lh_cap (gX9_findHang (gX8_hang h)) (lh_m (gX8_hang h) 4) 0)) ∧ fX8_hang h = fX9_hang (gX8_hang h) ∧ lh_INV k (gX9_hang (gX8_hang h)) := sorry
theorem op_keep_t {h : lh_HS} (L : lh_INV true h) : lh_INV true (gX9_keep (gX8_keep_t h)) := sorry
theorem op_keep_f {h : lh_HS} (L : lh_INV false h) : lh_INV true (gX9_keep (gX2_copyFrom_k (lh_hk h))) := sorry
theorem op_back_t {h : lh_HS} (L : lh_INV true h) : fX8_back_t h = fX9_back (gX8_back_t h) ∧ lh_INV true (gX9_back (gX8_back_t h)) := sorry
