/-! the items of $in, the bounds of a condition -/
/-- the places of the elements from p on -/
def q_els (B : Nat → Nat) (last : Nat) : Nat → Nat → List Nat
  | 0, _ => []
  | f + 1, p => if p < last then p :: q_els B last f (q_next B p) else []
theorem q_els_s (B : Nat → Nat) (last f p : Nat) : q_els B last (f + 1) p = if p < last then p :: q_els B last f (q_next B p) else [] := rfl
def q_pos (ob : Nat → Nat → Int32) : List qR → Nat → Nat
  | [], _ => 0
  | r :: l, i => if ob r.1.2.2.2 i < 0 then q_pos ob l i + 1 else 0
theorem q_pos_c (ob : Nat → Nat → Int32) (r : qR) (l : List qR) (i : Nat) : q_pos ob (r :: l) i = if ob r.1.2.2.2 i < 0 then q_pos ob l i + 1 else 0 := rfl
def q_insr (ob : Nat → Nat → Int32) (B : Nat → Nat) (l : List qR) (i : Nat) : List qR := if q_pos ob l i < l.length ∧ ob (l.getD (q_pos ob l i) q_r0).1.2.2.2 i = 0 then l else l.take (q_pos ob l i) ++ q_pt B i :: l.drop (q_pos ob l i)
def q_items (ob : Nat → Nat → Int32) (B : Nat → Nat) (e : Nat) : Option (List qR) := if (q_els B (q_last B (q_val B e)) 2001 (q_val B e + 4)).any (fun i => decide (B i = 4)) = true then none else some ((q_els B (q_last B (q_val B e)) 2001 (q_val B e + 4)).foldl (fun acc i => q_insr ob B acc i) [])
theorem q_pos_le (ob : Nat → Nat → Int32) : ∀ (l : List qR) (i : Nat), q_pos ob l i ≤ l.length := by
  intro l
  induction l with
  | nil => intro i; exact Nat.le_refl _
  | cons r l ih =>
    intro i
    unfold q_pos
    have := ih i
    rw [List.length_cons]
    split <;> omega
theorem q_insr_len (ob : Nat → Nat → Int32) (B : Nat → Nat) (l : List qR) (i : Nat) : (q_insr ob B l i).length ≤ l.length + 1 := by
  have := q_pos_le ob l i
  unfold q_insr
  split
  · omega
  · rw [List.length_append, List.length_cons, List.length_take, List.length_drop]
    omega
def q_isPt (B : Nat → Nat) (n : Nat) (r : qR) : Prop := ∃ p lev, r = q_pt B p ∧ lev < 17 ∧ q_me B n p lev
theorem q_insr_pt {ob : Nat → Nat → Int32} {B : Nat → Nat} {n : Nat} {l : List qR} {i lev : Nat} (hl : ∀ r ∈ l, q_isPt B n r) (hi : q_me B n i lev) (hlev : lev < 17) : ∀ r ∈ q_insr ob B l i, q_isPt B n r := by
  intro r hr
  unfold q_insr at hr
  split at hr
  · exact hl r hr
  · rcases List.mem_append.mp hr with hr | hr
    · exact hl r (List.mem_of_mem_take hr)
    · rcases List.mem_cons.mp hr with hr | hr
      · exact ⟨i, lev, hr, hlev, hi⟩
      · exact hl r (List.mem_of_mem_drop hr)
theorem nI_dec {j : Nat} (hj : 1 ≤ j) : nI j + Int32.ofInt (-1) = nI (j - 1) := by
  obtain ⟨k, rfl⟩ : ∃ k, j = k + 1 := ⟨j - 1, by omega⟩
  rw [Nat.add_sub_cancel, nI_succ, Int32.add_assoc, show (1 : Int32) + Int32.ofInt (-1) = 0 from by decide, Int32.add_zero]
section M
variable {E : mmE} {d : Nat} {h : mmH} {Q : Option Value → mmH → Prop} {o : Nat} {ad : Nat → Nat} {I : Nat → Int32} {C : Nat → Nat → Int32} {S : Nat → List qR} {R B : Nat → Nat} {n : Nat}
theorem sp_mitems {s e l0 : Nat} (hd : 44 ≤ d) (hD : mD o ad) (hC : ∀ j, j < 22100 → C 1 j = sb_b (R j)) (hR : ∀ j, R j < 256) (hw : mW R 0 n B) (hS : mS3 C S) (hs : s < 3) (hs0 : S s = []) (he : q_me B n e l0) (hl0 : l0 < 17) (hk4 : B e = 4)
    (hq : ∀ C', mS3 C' (uf S s ((q_items (q_ord B B 17) B e).getD [])) → mFr C C' → Q (some (.int (q_t (q_items (q_ord B B 17) B e).isSome))) (mH h o ad I C')) : mm_Go E d 151 (mm_blk 151 0) [.ref o, .int (nI s), .int (nI e), mm_un, mm_un, mm_un, mm_un] [] (mH h o ad I C) Q := by
  have hm : ∀ (I : Nat → Int32) (C' : Nat → Nat → Int32), mFr C C' → mSt (mH h o ad I C') o (ad 1) R := fun I C' hf => mH_st hD (fun j hj => by rw [hf 1 (by decide) (by decide)]; exact hC j hj) hR
  have hrn := hw.2.2.1
  have hok := q_me_ok he
  obtain ⟨b1, b2, b3, b4, b5⟩ := q_me_box he (Or.inr hk4)
  have getm : ∀ (l : List qR) (k : Nat), k < l.length → l.getD k q_r0 ∈ l := by
    intro l k hk
    rw [List.getD_eq_getElem?_getD, List.getElem?_eq_getElem hk]
    exact List.getElem_mem hk
  rw [decide_eq_true hk4] at b5
  unfold q_items at hq
  have loop2 : ∀ (f i idx : Nat) (acc : List qR) (C1 : Nat → Nat → Int32) (x5 x6 : Value), q_last B (q_val B e) < f + i → q_at (q_u8 B) (l0 - 1) B true (q_last B (q_val B e)) i idx → mS3 C1 (uf S s acc) → mFr C C1 → (∀ r ∈ acc, q_isPt B n r) → 2 * acc.length ≤ i →
      (∀ C', mS3 C' (uf S s ((q_els B (q_last B (q_val B e)) f i).foldl (fun acc i => q_insr (q_ord B B 17) B acc i) acc)) → mFr C C' → Q (some (.int (q_t true))) (mH h o ad I C')) → mm_Go E d 151 (mm_blk 151 4) [.ref o, .int (nI s), .int (nI e), .int (nI (q_val B e)), .int (nI i), x5, x6] [] (mH h o ad I C1) Q := by
    intro f
    induction f with
    | zero =>
      intro i idx acc C1 x5 x6 hf hat
      have := q_at_le hat
      omega
    | succ f ih =>
      intro i idx acc C1 x5 x6 hf hat hS1 hF1 hpt hlen hq
      have hil := q_at_le hat
      unfold q_els at hq
      repeat (first | refine gi_con ?_ | refine gi_bip (Nat.le_of_ble_eq_true rfl) ?_ | refine gi_sip (Nat.le_of_ble_eq_true rfl) ?_ | refine gi_ldc ?_ | refine gi_add ?_ | refine gi_inc rfl ?_ | refine gi_sub (by omega) ?_ | refine gi_mul ?_ | refine go_nx rfl ?_)
      refine go_step ?_
      refine g_callV (by decide) (by decide) (Nat.le_of_ble_eq_true rfl) (Nat.le_of_ble_eq_true rfl) mH_rcv (by omega) (Nat.le_of_ble_eq_true rfl) rfl ?_
      refine z_last (by omega) (hm _ _ hF1) hw (by omega) (by omega) ?_
      repeat (first | refine gi_con ?_ | refine gi_bip (Nat.le_of_ble_eq_true rfl) ?_ | refine gi_sip (Nat.le_of_ble_eq_true rfl) ?_ | refine gi_ldc ?_ | refine gi_add ?_ | refine gi_inc rfl ?_ | refine gi_sub (by omega) ?_ | refine gi_mul ?_ | refine go_nx rfl ?_)
      first | refine gb_lt (by omega) (by omega) (fun c1 => ?_) (fun c1 => ?_) | refine gb_ge (by omega) (by omega) (fun c1 => ?_) (fun c1 => ?_) | refine gb_gt (by omega) (by omega) (fun c1 => ?_) (fun c1 => ?_) | refine gb_le (by omega) (by omega) (fun c1 => ?_) (fun c1 => ?_) | refine gb_eq (by omega) (by omega) (fun c1 => ?_) (fun c1 => ?_) | refine gb_ne (by omega) (by omega) (fun c1 => ?_) (fun c1 => ?_)
      · rw [if_neg (by omega)] at hq
        repeat (first | refine gi_con ?_ | refine gi_bip (Nat.le_of_ble_eq_true rfl) ?_ | refine gi_sip (Nat.le_of_ble_eq_true rfl) ?_ | refine gi_ldc ?_ | refine gi_add ?_ | refine gi_inc rfl ?_ | refine gi_sub (by omega) ?_ | refine gi_mul ?_ | refine go_nx rfl ?_)
        refine go_rt rfl ?_
        exact hq C1 hS1 hF1
      have c1' : i < q_last B (q_val B e) := by omega
      rw [if_pos c1', List.foldl_cons] at hq
      have hel := q_at_el hat c1'
      have hme := q_me_at (n := n) hat c1' (by omega)
      have hoki := q_me_ok hme
      have hnx := q_at_le hel.2.2.2.2
      obtain ⟨j1, j2, j3⟩ := q_ok_in hw.2.2 hoki
      have hlacc : acc.length ≤ 1000 := by omega
      have ten : ∀ (C2 : Nat → Nat → Int32) (x5 : Int32) (x6 : Value), mS3 C2 (uf S s (q_insr (q_ord B B 17) B acc i)) → mFr C C2 → mm_Go E d 151 (mm_blk 151 10) [.ref o, .int (nI s), .int (nI e), .int (nI (q_val B e)), .int (nI i), .int x5, x6] [] (mH h o ad I C2) Q := by
        intro C2 x5 x6 hS2 hF2
        repeat (first | refine gi_con ?_ | refine gi_bip (Nat.le_of_ble_eq_true rfl) ?_ | refine gi_sip (Nat.le_of_ble_eq_true rfl) ?_ | refine gi_ldc ?_ | refine gi_add ?_ | refine gi_inc rfl ?_ | refine gi_sub (by omega) ?_ | refine gi_mul ?_ | refine go_nx rfl ?_)
        refine go_step ?_
        refine g_callV (by decide) (by decide) (Nat.le_of_ble_eq_true rfl) (Nat.le_of_ble_eq_true rfl) mH_rcv (by omega) (Nat.le_of_ble_eq_true rfl) rfl ?_
        refine z_next (by omega) (hm _ _ hF2) hw hoki ?_
        repeat (first | refine gi_con ?_ | refine gi_bip (Nat.le_of_ble_eq_true rfl) ?_ | refine gi_sip (Nat.le_of_ble_eq_true rfl) ?_ | refine gi_ldc ?_ | refine gi_add ?_ | refine gi_inc rfl ?_ | refine gi_sub (by omega) ?_ | refine gi_mul ?_ | refine go_nx rfl ?_)
        refine go_jp rfl ?_
        have hil2 := q_insr_len (q_ord B B 17) B acc i
        exact ih (q_next B i) (idx + 1) _ C2 _ _ (by omega) hel.2.2.2.2 hS2 hF2 (q_insr_pt hpt hme (by omega)) (by omega) hq
      have hS1s : (uf S s acc) s = acc := uf_at _ _ _
      have hlt : acc.length < 1000 := by omega
      have pl : ∀ k, k < acc.length → ∃ p lev, acc.getD k q_r0 = q_pt B p ∧ lev < 17 ∧ q_me B n p lev := fun k hk => hpt _ (getm acc k hk)
      have ordk : ∀ (k : Nat) (C1 : Nat → Nat → Int32) (Q' : Option Value → mmH → Prop), k < acc.length → mFr C C1 → Q' (some (.int (q_ord B B 17 (acc.getD k q_r0).1.2.2.2 i))) (mH h o ad I C1) → mm_Go E (d - 1) 153 (mm_blk 153 0) [.ref o, .int (q_ef (acc.getD k q_r0).1 3), .int (nI i), mm_un, mm_un, mm_un, mm_un, mm_un, mm_un, mm_un, mm_un] [] (mH h o ad I C1) Q' := by
        intro k C1 Q' hk hF hq'
        obtain ⟨p, lev, e1, e2, e3⟩ := pl k hk
        rw [e1] at hq' ⊢
        exact z_ord (by omega) (hm _ _ hF) hw e2 (show l0 - 1 < 17 by omega) e3 hme hq'
      have seven : ∀ (k : Nat) (x6 : Value), k = q_pos (q_ord B B 17) acc i → q_insr (q_ord B B 17) B acc i = acc.take k ++ q_pt B i :: acc.drop k → mm_Go E d 151 (mm_blk 151 7) [.ref o, .int (nI s), .int (nI e), .int (nI (q_val B e)), .int (nI i), .int (nI k), x6] [] (mH h o ad I C1) Q := by
        intro k x6 hk hins
        have hkl : k ≤ acc.length := by rw [hk]; exact q_pos_le _ _ _
        obtain ⟨z1, z2, z3⟩ := hS1 s hs
        rw [hS1s] at z1 z2 z3
        have shift : ∀ (m j : Nat) (g : Nat → Int32), m + (8000 * s + 8 * k + 7) = j → j ≤ 8000 * s + 8 * acc.length + 7 → (∀ p, p ≤ j → g p = C1 15 p) → (∀ p, j < p → p < 8000 * s + 8 * acc.length + 8 → g p = C1 15 (p - 8)) → (∀ p, 8000 * s + 8 * acc.length + 8 ≤ p → g p = C1 15 p) → mm_Go E d 151 (mm_blk 151 8) [.ref o, .int (nI s), .int (nI e), .int (nI (q_val B e)), .int (nI i), .int (nI k), .int (nI j)] [] (mH h o ad I (uf (uf C1 14 (uf (C1 14) s (nI (acc.length + 1)))) 15 g)) Q := by
          intro m
          induction m with
          | zero =>
            intro j g hj hjl g1 g2 g3
            repeat (first | refine gi_con ?_ | refine gi_bip (Nat.le_of_ble_eq_true rfl) ?_ | refine gi_sip (Nat.le_of_ble_eq_true rfl) ?_ | refine gi_ldc ?_ | refine gi_add ?_ | refine gi_inc rfl ?_ | refine gi_sub (by omega) ?_ | refine gi_mul ?_ | refine go_nx rfl ?_)
            first | refine gb_lt (by omega) (by omega) (fun c2 => ?_) (fun c2 => ?_) | refine gb_ge (by omega) (by omega) (fun c2 => ?_) (fun c2 => ?_) | refine gb_gt (by omega) (by omega) (fun c2 => ?_) (fun c2 => ?_) | refine gb_le (by omega) (by omega) (fun c2 => ?_) (fun c2 => ?_) | refine gb_eq (by omega) (by omega) (fun c2 => ?_) (fun c2 => ?_) | refine gb_ne (by omega) (by omega) (fun c2 => ?_) (fun c2 => ?_)
            · repeat (first | refine gi_con ?_ | refine gi_bip (Nat.le_of_ble_eq_true rfl) ?_ | refine gi_sip (Nat.le_of_ble_eq_true rfl) ?_ | refine gi_ldc ?_ | refine gi_add ?_ | refine gi_inc rfl ?_ | refine gi_sub (by omega) ?_ | refine gi_mul ?_ | refine go_nx rfl ?_)
              refine gm_get (.ref (ad 14)) rfl rfl ?_
              repeat (first | refine gi_con ?_ | refine gi_bip (Nat.le_of_ble_eq_true rfl) ?_ | refine gi_sip (Nat.le_of_ble_eq_true rfl) ?_ | refine gi_ldc ?_ | refine gi_add ?_ | refine gi_inc rfl ?_ | refine gi_sub (by omega) ?_ | refine gi_mul ?_ | refine go_nx rfl ?_)
              refine gm_ild hD (by decide) rfl (show s < 3 from hs) (by decide) ?_
              rw [uf_ne (show (14 : Nat) ≠ 15 by decide), uf_at, uf_at]
              repeat (first | refine gi_con ?_ | refine gi_bip (Nat.le_of_ble_eq_true rfl) ?_ | refine gi_sip (Nat.le_of_ble_eq_true rfl) ?_ | refine gi_ldc ?_ | refine gi_add ?_ | refine gi_inc rfl ?_ | refine gi_sub (by omega) ?_ | refine gi_mul ?_ | refine go_nx rfl ?_)
              refine gm_get (.ref (ad 14)) rfl rfl ?_
              repeat (first | refine gi_con ?_ | refine gi_bip (Nat.le_of_ble_eq_true rfl) ?_ | refine gi_sip (Nat.le_of_ble_eq_true rfl) ?_ | refine gi_ldc ?_ | refine gi_add ?_ | refine gi_inc rfl ?_ | refine gi_sub (by omega) ?_ | refine gi_mul ?_ | refine go_nx rfl ?_)
              refine gm_ist hD (by decide) rfl (show s < 3 from hs) (by decide) ?_
              have hF4 : mFr C (uf (uf (uf C1 14 (uf (C1 14) s (nI (acc.length + 1)))) 15 g) 14 (uf ((uf (uf C1 14 (uf (C1 14) s (nI (acc.length + 1)))) 15 g) 14) s (nI k))) := mFr_14 (mFr_15 (mFr_14 hF1))
              have hS4 : mS3 (uf (uf (uf C1 14 (uf (C1 14) s (nI (acc.length + 1)))) 15 g) 14 (uf ((uf (uf C1 14 (uf (C1 14) s (nI (acc.length + 1)))) 15 g) 14) s (nI k))) (uf S s (acc.take k)) := by
                intro r hr
                rw [uf_at, uf_ne (show (15 : Nat) ≠ 14 by decide), uf_at, uf_ne (show (14 : Nat) ≠ 15 by decide), uf_at]
                by_cases hrs : r = s
                · subst hrs
                  rw [uf_at, uf_at]
                  have hl : (acc.take k).length = k := by rw [List.length_take]; omega
                  rw [hl]
                  refine ⟨by omega, rfl, fun r' hr' f hf => ?_⟩
                  rw [g1 _ (by omega), z3 r' (by omega) f hf, List.getD_eq_getElem?_getD, List.getD_eq_getElem?_getD, List.getElem?_take_of_lt hr']
                · obtain ⟨y1, y2, y3⟩ := hS1 r hr
                  rw [uf_ne hrs] at y1 y2 y3 ⊢
                  rw [uf_ne hrs, uf_ne hrs]
                  refine ⟨y1, y2, fun r' hr' f hf => ?_⟩
                  have hgp : g (8000 * r + 8 * r' + f) = C1 15 (8000 * r + 8 * r' + f) := by
                    by_cases hlt2 : r < s
                    · exact g1 _ (by omega)
                    · exact g3 _ (by omega)
                  rw [hgp]
                  exact y3 r' hr' f hf
              have hl : (acc.take k).length = k := by rw [List.length_take]; omega
              repeat (first | refine gi_con ?_ | refine gi_bip (Nat.le_of_ble_eq_true rfl) ?_ | refine gi_sip (Nat.le_of_ble_eq_true rfl) ?_ | refine gi_ldc ?_ | refine gi_add ?_ | refine gi_inc rfl ?_ | refine gi_sub (by omega) ?_ | refine gi_mul ?_ | refine go_nx rfl ?_)
              refine go_step ?_
              refine g_callV (by decide) (by decide) (Nat.le_of_ble_eq_true rfl) (Nat.le_of_ble_eq_true rfl) mH_rcv (by omega) (Nat.le_of_ble_eq_true rfl) rfl ?_
              refine sp_mwriteValueX (by omega) hD (fun j hj => by rw [hF4 1 (by decide) (by decide)]; exact hC j hj) hR hw hme hS4 hs (by rw [uf_at, hl]; omega) (fun C5 hS5 hF5 h15 h14 => ?_)
              rw [uf_at, hl] at h15
              rw [uf_uf, uf_at] at hS5
              repeat (first | refine gi_con ?_ | refine gi_bip (Nat.le_of_ble_eq_true rfl) ?_ | refine gi_sip (Nat.le_of_ble_eq_true rfl) ?_ | refine gi_ldc ?_ | refine gi_add ?_ | refine gi_inc rfl ?_ | refine gi_sub (by omega) ?_ | refine gi_mul ?_ | refine go_nx rfl ?_)
              refine gm_get (.ref (ad 14)) rfl rfl ?_
              repeat (first | refine gi_con ?_ | refine gi_bip (Nat.le_of_ble_eq_true rfl) ?_ | refine gi_sip (Nat.le_of_ble_eq_true rfl) ?_ | refine gi_ldc ?_ | refine gi_add ?_ | refine gi_inc rfl ?_ | refine gi_sub (by omega) ?_ | refine gi_mul ?_ | refine go_nx rfl ?_)
              refine gm_ist hD (by decide) rfl (show s < 3 from hs) (by decide) ?_
              refine go_jp rfl ?_
              refine ten _ _ _ ?_ (mFr_14 (mFr_t hF4 hF5))
              rw [hins]
              intro r hr
              obtain ⟨y1, y2, y3⟩ := hS5 r hr
              rw [uf_at, uf_ne (show (15 : Nat) ≠ 14 by decide)]
              by_cases hrs : r = s
              · subst hrs
                rw [uf_at, uf_at]
                rw [uf_at] at y1 y2 y3
                have hl2 : (acc.take k ++ q_pt B i :: acc.drop k).length = acc.length + 1 := by
                  rw [List.length_append, List.length_cons, List.length_take, List.length_drop]
                  omega
                have hl3 : (acc.take k ++ [q_pt B i]).length = k + 1 := by rw [List.length_append, hl]; rfl
                rw [hl2]
                refine ⟨by omega, rfl, fun r' hr' f hf => ?_⟩
                by_cases hr2 : r' ≤ k
                · rw [y3 r' (by omega) f hf]
                  congr 1
                  by_cases hr3 : r' < k
                  · rw [List.getD_eq_getElem?_getD, List.getD_eq_getElem?_getD, List.getElem?_append_left (by omega), List.getElem?_append_left (by omega)]
                  · rw [List.getD_eq_getElem?_getD, List.getD_eq_getElem?_getD, List.getElem?_append_right (by omega), List.getElem?_append_right (by omega), hl, show r' - k = 0 by omega]
                    rfl
                · rw [h15 _ (fun f' hf' => by omega), uf_ne (show (15 : Nat) ≠ 14 by decide), uf_at, g2 _ (by omega) (by omega), show 8000 * r + 8 * r' + f - 8 = 8000 * r + 8 * (r' - 1) + f by omega, z3 (r' - 1) (by omega) f hf]
                  congr 1
                  rw [List.getD_eq_getElem?_getD, List.getD_eq_getElem?_getD, List.getElem?_append_right (by omega), hl, show r' - k = (r' - 1 - k) + 1 by omega, List.getElem?_cons_succ, List.getElem?_drop, show k + (r' - 1 - k) = r' - 1 by omega]
              · rw [uf_ne hrs] at y1 y2 y3 ⊢
                rw [uf_ne hrs]
                exact ⟨y1, y2, y3⟩
            · omega
          | succ m ihm =>
            intro j g hj hjl g1 g2 g3
            repeat (first | refine gi_con ?_ | refine gi_bip (Nat.le_of_ble_eq_true rfl) ?_ | refine gi_sip (Nat.le_of_ble_eq_true rfl) ?_ | refine gi_ldc ?_ | refine gi_add ?_ | refine gi_inc rfl ?_ | refine gi_sub (by omega) ?_ | refine gi_mul ?_ | refine go_nx rfl ?_)
            first | refine gb_lt (by omega) (by omega) (fun c2 => ?_) (fun c2 => ?_) | refine gb_ge (by omega) (by omega) (fun c2 => ?_) (fun c2 => ?_) | refine gb_gt (by omega) (by omega) (fun c2 => ?_) (fun c2 => ?_) | refine gb_le (by omega) (by omega) (fun c2 => ?_) (fun c2 => ?_) | refine gb_eq (by omega) (by omega) (fun c2 => ?_) (fun c2 => ?_) | refine gb_ne (by omega) (by omega) (fun c2 => ?_) (fun c2 => ?_)
            · omega
            repeat (first | refine gi_con ?_ | refine gi_bip (Nat.le_of_ble_eq_true rfl) ?_ | refine gi_sip (Nat.le_of_ble_eq_true rfl) ?_ | refine gi_ldc ?_ | refine gi_add ?_ | refine gi_inc rfl ?_ | refine gi_sub (by omega) ?_ | refine gi_mul ?_ | refine go_nx rfl ?_)
            refine gm_get (.ref (ad 15)) rfl rfl ?_
            repeat (first | refine gi_con ?_ | refine gi_bip (Nat.le_of_ble_eq_true rfl) ?_ | refine gi_sip (Nat.le_of_ble_eq_true rfl) ?_ | refine gi_ldc ?_ | refine gi_add ?_ | refine gi_inc rfl ?_ | refine gi_sub (by omega) ?_ | refine gi_mul ?_ | refine go_nx rfl ?_)
            refine gm_get (.ref (ad 15)) rfl rfl ?_
            repeat (first | refine gi_con ?_ | refine gi_bip (Nat.le_of_ble_eq_true rfl) ?_ | refine gi_sip (Nat.le_of_ble_eq_true rfl) ?_ | refine gi_ldc ?_ | refine gi_add ?_ | refine gi_inc rfl ?_ | refine gi_sub (by omega) ?_ | refine gi_mul ?_ | refine go_nx rfl ?_)
            refine gm_ild hD (by decide) rfl (show j - 8 < 24000 by omega) (by decide) ?_
            repeat (first | refine gi_con ?_ | refine gi_bip (Nat.le_of_ble_eq_true rfl) ?_ | refine gi_sip (Nat.le_of_ble_eq_true rfl) ?_ | refine gi_ldc ?_ | refine gi_add ?_ | refine gi_inc rfl ?_ | refine gi_sub (by omega) ?_ | refine gi_mul ?_ | refine go_nx rfl ?_)
            refine gm_ist hD (by decide) rfl (show j < 24000 by omega) (by decide) ?_
            rw [uf_at, uf_uf]
            repeat (first | refine gi_con ?_ | refine gi_bip (Nat.le_of_ble_eq_true rfl) ?_ | refine gi_sip (Nat.le_of_ble_eq_true rfl) ?_ | refine gi_ldc ?_ | refine gi_add ?_ | refine gi_inc rfl ?_ | refine gi_sub (by omega) ?_ | refine gi_mul ?_ | refine go_nx rfl ?_)
            rw [nI_dec (show 1 ≤ j by omega)]
            refine go_jp rfl ?_
            refine ihm (j - 1) _ (by omega) (by omega) (fun p hp => ?_) (fun p hp hp2 => ?_) (fun p hp => ?_)
            · rw [uf_ne (by omega)]
              exact g1 p (by omega)
            · by_cases hpj : p = j
              · rw [hpj, uf_at]
                exact g1 _ (by omega)
              · rw [uf_ne hpj]
                exact g2 p (by omega) hp2
            · rw [uf_ne (by omega)]
              exact g3 p hp
        repeat (first | refine gi_con ?_ | refine gi_bip (Nat.le_of_ble_eq_true rfl) ?_ | refine gi_sip (Nat.le_of_ble_eq_true rfl) ?_ | refine gi_ldc ?_ | refine gi_add ?_ | refine gi_inc rfl ?_ | refine gi_sub (by omega) ?_ | refine gi_mul ?_ | refine go_nx rfl ?_)
        refine gm_get (.ref (ad 14)) rfl rfl ?_
        repeat (first | refine gi_con ?_ | refine gi_bip (Nat.le_of_ble_eq_true rfl) ?_ | refine gi_sip (Nat.le_of_ble_eq_true rfl) ?_ | refine gi_ldc ?_ | refine gi_add ?_ | refine gi_inc rfl ?_ | refine gi_sub (by omega) ?_ | refine gi_mul ?_ | refine go_nx rfl ?_)
        refine gm_ild hD (by decide) rfl (show s < 3 from hs) (by decide) ?_
        rw [z2]
        repeat (first | refine gi_con ?_ | refine gi_bip (Nat.le_of_ble_eq_true rfl) ?_ | refine gi_sip (Nat.le_of_ble_eq_true rfl) ?_ | refine gi_ldc ?_ | refine gi_add ?_ | refine gi_inc rfl ?_ | refine gi_sub (by omega) ?_ | refine gi_mul ?_ | refine go_nx rfl ?_)
        refine gm_ist hD (by decide) rfl (show s < 3 from hs) (by decide) ?_
        repeat (first | refine gi_con ?_ | refine gi_bip (Nat.le_of_ble_eq_true rfl) ?_ | refine gi_sip (Nat.le_of_ble_eq_true rfl) ?_ | refine gi_ldc ?_ | refine gi_add ?_ | refine gi_inc rfl ?_ | refine gi_sub (by omega) ?_ | refine gi_mul ?_ | refine go_nx rfl ?_)
        refine gm_get (.ref (ad 14)) rfl rfl ?_
        repeat (first | refine gi_con ?_ | refine gi_bip (Nat.le_of_ble_eq_true rfl) ?_ | refine gi_sip (Nat.le_of_ble_eq_true rfl) ?_ | refine gi_ldc ?_ | refine gi_add ?_ | refine gi_inc rfl ?_ | refine gi_sub (by omega) ?_ | refine gi_mul ?_ | refine go_nx rfl ?_)
        refine gm_ild hD (by decide) rfl (show s < 3 from hs) (by decide) ?_
        rw [uf_at, uf_at]
        repeat (first | refine gi_con ?_ | refine gi_bip (Nat.le_of_ble_eq_true rfl) ?_ | refine gi_sip (Nat.le_of_ble_eq_true rfl) ?_ | refine gi_ldc ?_ | refine gi_add ?_ | refine gi_inc rfl ?_ | refine gi_sub (by omega) ?_ | refine gi_mul ?_ | refine go_nx rfl ?_)
        refine go_jp rfl ?_
        have e15 : uf C1 14 (uf (C1 14) s (nI (acc.length + 1))) = uf (uf C1 14 (uf (C1 14) s (nI (acc.length + 1)))) 15 (C1 15) := by
          funext j
          unfold uf
          by_cases h15 : j = 15
          · subst h15
            rfl
          · rw [if_neg h15]
        rw [e15]
        refine shift (8 * (acc.length - k)) _ (C1 15) (by omega) (by omega) (fun p _ => rfl) (fun p h1 h2 => ?_) (fun p _ => rfl)
        omega
      have six : ∀ (k : Nat) (x6 : Value), k = q_pos (q_ord B B 17) acc i → mm_Go E d 151 (mm_blk 151 6) [.ref o, .int (nI s), .int (nI e), .int (nI (q_val B e)), .int (nI i), .int (nI k), x6] [] (mH h o ad I C1) Q := by
        intro k x6 hk
        repeat (first | refine gi_con ?_ | refine gi_bip (Nat.le_of_ble_eq_true rfl) ?_ | refine gi_sip (Nat.le_of_ble_eq_true rfl) ?_ | refine gi_ldc ?_ | refine gi_add ?_ | refine gi_inc rfl ?_ | refine gi_sub (by omega) ?_ | refine gi_mul ?_ | refine go_nx rfl ?_)
        refine gm_get (.ref (ad 14)) rfl rfl ?_
        repeat (first | refine gi_con ?_ | refine gi_bip (Nat.le_of_ble_eq_true rfl) ?_ | refine gi_sip (Nat.le_of_ble_eq_true rfl) ?_ | refine gi_ldc ?_ | refine gi_add ?_ | refine gi_inc rfl ?_ | refine gi_sub (by omega) ?_ | refine gi_mul ?_ | refine go_nx rfl ?_)
        refine gm_ild hD (by decide) rfl (show s < 3 from hs) (by decide) ?_
        rw [(hS1 s hs).2.1, hS1s]
        have hkl : k ≤ acc.length := by rw [hk]; exact q_pos_le _ _ _
        repeat (first | refine gi_con ?_ | refine gi_bip (Nat.le_of_ble_eq_true rfl) ?_ | refine gi_sip (Nat.le_of_ble_eq_true rfl) ?_ | refine gi_ldc ?_ | refine gi_add ?_ | refine gi_inc rfl ?_ | refine gi_sub (by omega) ?_ | refine gi_mul ?_ | refine go_nx rfl ?_)
        first | refine gb_lt (by omega) (by omega) (fun c2 => ?_) (fun c2 => ?_) | refine gb_ge (by omega) (by omega) (fun c2 => ?_) (fun c2 => ?_) | refine gb_gt (by omega) (by omega) (fun c2 => ?_) (fun c2 => ?_) | refine gb_le (by omega) (by omega) (fun c2 => ?_) (fun c2 => ?_) | refine gb_eq (by omega) (by omega) (fun c2 => ?_) (fun c2 => ?_) | refine gb_ne (by omega) (by omega) (fun c2 => ?_) (fun c2 => ?_)
        · refine seven k _ hk ?_
          unfold q_insr
          rw [← hk, if_neg (fun q => absurd q.1 (by omega))]
        repeat (first | refine gi_con ?_ | refine gi_bip (Nat.le_of_ble_eq_true rfl) ?_ | refine gi_sip (Nat.le_of_ble_eq_true rfl) ?_ | refine gi_ldc ?_ | refine gi_add ?_ | refine gi_inc rfl ?_ | refine gi_sub (by omega) ?_ | refine gi_mul ?_ | refine go_nx rfl ?_)
        refine go_step ?_
        refine g_callV (by decide) (by decide) (Nat.le_of_ble_eq_true rfl) (Nat.le_of_ble_eq_true rfl) mH_rcv (by omega) (Nat.le_of_ble_eq_true rfl) rfl ?_
        refine sp_mfl 3 hD hS1 hs (by rw [hS1s]; exact c2) (by rw [hS1s]) (by omega) ?_
        repeat (first | refine gi_con ?_ | refine gi_bip (Nat.le_of_ble_eq_true rfl) ?_ | refine gi_sip (Nat.le_of_ble_eq_true rfl) ?_ | refine gi_ldc ?_ | refine gi_add ?_ | refine gi_inc rfl ?_ | refine gi_sub (by omega) ?_ | refine gi_mul ?_ | refine go_nx rfl ?_)
        refine go_step ?_
        refine g_callV (by decide) (by decide) (Nat.le_of_ble_eq_true rfl) (Nat.le_of_ble_eq_true rfl) mH_rcv (by omega) (Nat.le_of_ble_eq_true rfl) rfl ?_
        refine ordk k C1 _ c2 hF1 ?_
        repeat (first | refine gi_con ?_ | refine gi_bip (Nat.le_of_ble_eq_true rfl) ?_ | refine gi_sip (Nat.le_of_ble_eq_true rfl) ?_ | refine gi_ldc ?_ | refine gi_add ?_ | refine gi_inc rfl ?_ | refine gi_sub (by omega) ?_ | refine gi_mul ?_ | refine go_nx rfl ?_)
        refine gx_ne (fun c3 => ?_) (fun c3 => ?_)
        · refine seven k _ hk ?_
          unfold q_insr
          rw [← hk, if_neg (fun q => absurd q.2 c3)]
        · have hins : q_insr (q_ord B B 17) B acc i = acc := by
            unfold q_insr
            rw [← hk, if_pos ⟨c2, c3⟩]
          refine go_jp rfl ?_
          exact ten C1 _ _ (by rw [hins]; exact hS1) hF1
      have srch : ∀ (m k : Nat) (x6 : Value), m + k = acc.length → q_pos (q_ord B B 17) acc i = k + q_pos (q_ord B B 17) (acc.drop k) i → mm_Go E d 151 (mm_blk 151 5) [.ref o, .int (nI s), .int (nI e), .int (nI (q_val B e)), .int (nI i), .int (nI k), x6] [] (mH h o ad I C1) Q := by
        intro m
        induction m with
        | zero =>
          intro k x6 hk hp
          rw [List.drop_of_length_le (by omega)] at hp
          have hp : q_pos (q_ord B B 17) acc i = k + 0 := hp
          repeat (first | refine gi_con ?_ | refine gi_bip (Nat.le_of_ble_eq_true rfl) ?_ | refine gi_sip (Nat.le_of_ble_eq_true rfl) ?_ | refine gi_ldc ?_ | refine gi_add ?_ | refine gi_inc rfl ?_ | refine gi_sub (by omega) ?_ | refine gi_mul ?_ | refine go_nx rfl ?_)
          refine gm_get (.ref (ad 14)) rfl rfl ?_
          repeat (first | refine gi_con ?_ | refine gi_bip (Nat.le_of_ble_eq_true rfl) ?_ | refine gi_sip (Nat.le_of_ble_eq_true rfl) ?_ | refine gi_ldc ?_ | refine gi_add ?_ | refine gi_inc rfl ?_ | refine gi_sub (by omega) ?_ | refine gi_mul ?_ | refine go_nx rfl ?_)
          refine gm_ild hD (by decide) rfl (show s < 3 from hs) (by decide) ?_
          rw [(hS1 s hs).2.1, hS1s]
          repeat (first | refine gi_con ?_ | refine gi_bip (Nat.le_of_ble_eq_true rfl) ?_ | refine gi_sip (Nat.le_of_ble_eq_true rfl) ?_ | refine gi_ldc ?_ | refine gi_add ?_ | refine gi_inc rfl ?_ | refine gi_sub (by omega) ?_ | refine gi_mul ?_ | refine go_nx rfl ?_)
          first | refine gb_lt (by omega) (by omega) (fun c2 => ?_) (fun c2 => ?_) | refine gb_ge (by omega) (by omega) (fun c2 => ?_) (fun c2 => ?_) | refine gb_gt (by omega) (by omega) (fun c2 => ?_) (fun c2 => ?_) | refine gb_le (by omega) (by omega) (fun c2 => ?_) (fun c2 => ?_) | refine gb_eq (by omega) (by omega) (fun c2 => ?_) (fun c2 => ?_) | refine gb_ne (by omega) (by omega) (fun c2 => ?_) (fun c2 => ?_)
          · exact six k _ (by omega)
          · omega
        | succ m ihm =>
          intro k x6 hk hp
          have hkl : k < acc.length := by omega
          have edrop : acc.drop k = acc.getD k q_r0 :: acc.drop (k + 1) := by
            rw [List.drop_eq_getElem_cons hkl, List.getD_eq_getElem?_getD, List.getElem?_eq_getElem hkl]
            rfl
          rw [edrop, q_pos_c] at hp
          repeat (first | refine gi_con ?_ | refine gi_bip (Nat.le_of_ble_eq_true rfl) ?_ | refine gi_sip (Nat.le_of_ble_eq_true rfl) ?_ | refine gi_ldc ?_ | refine gi_add ?_ | refine gi_inc rfl ?_ | refine gi_sub (by omega) ?_ | refine gi_mul ?_ | refine go_nx rfl ?_)
          refine gm_get (.ref (ad 14)) rfl rfl ?_
          repeat (first | refine gi_con ?_ | refine gi_bip (Nat.le_of_ble_eq_true rfl) ?_ | refine gi_sip (Nat.le_of_ble_eq_true rfl) ?_ | refine gi_ldc ?_ | refine gi_add ?_ | refine gi_inc rfl ?_ | refine gi_sub (by omega) ?_ | refine gi_mul ?_ | refine go_nx rfl ?_)
          refine gm_ild hD (by decide) rfl (show s < 3 from hs) (by decide) ?_
          rw [(hS1 s hs).2.1, hS1s]
          repeat (first | refine gi_con ?_ | refine gi_bip (Nat.le_of_ble_eq_true rfl) ?_ | refine gi_sip (Nat.le_of_ble_eq_true rfl) ?_ | refine gi_ldc ?_ | refine gi_add ?_ | refine gi_inc rfl ?_ | refine gi_sub (by omega) ?_ | refine gi_mul ?_ | refine go_nx rfl ?_)
          first | refine gb_lt (by omega) (by omega) (fun c2 => ?_) (fun c2 => ?_) | refine gb_ge (by omega) (by omega) (fun c2 => ?_) (fun c2 => ?_) | refine gb_gt (by omega) (by omega) (fun c2 => ?_) (fun c2 => ?_) | refine gb_le (by omega) (by omega) (fun c2 => ?_) (fun c2 => ?_) | refine gb_eq (by omega) (by omega) (fun c2 => ?_) (fun c2 => ?_) | refine gb_ne (by omega) (by omega) (fun c2 => ?_) (fun c2 => ?_)
          · omega
          repeat (first | refine gi_con ?_ | refine gi_bip (Nat.le_of_ble_eq_true rfl) ?_ | refine gi_sip (Nat.le_of_ble_eq_true rfl) ?_ | refine gi_ldc ?_ | refine gi_add ?_ | refine gi_inc rfl ?_ | refine gi_sub (by omega) ?_ | refine gi_mul ?_ | refine go_nx rfl ?_)
          refine go_step ?_
          refine g_callV (by decide) (by decide) (Nat.le_of_ble_eq_true rfl) (Nat.le_of_ble_eq_true rfl) mH_rcv (by omega) (Nat.le_of_ble_eq_true rfl) rfl ?_
          refine sp_mfl 3 hD hS1 hs (by rw [hS1s]; exact hkl) (by rw [hS1s]) (by omega) ?_
          repeat (first | refine gi_con ?_ | refine gi_bip (Nat.le_of_ble_eq_true rfl) ?_ | refine gi_sip (Nat.le_of_ble_eq_true rfl) ?_ | refine gi_ldc ?_ | refine gi_add ?_ | refine gi_inc rfl ?_ | refine gi_sub (by omega) ?_ | refine gi_mul ?_ | refine go_nx rfl ?_)
          refine go_step ?_
          refine g_callV (by decide) (by decide) (Nat.le_of_ble_eq_true rfl) (Nat.le_of_ble_eq_true rfl) mH_rcv (by omega) (Nat.le_of_ble_eq_true rfl) rfl ?_
          refine ordk k C1 _ hkl hF1 ?_
          repeat (first | refine gi_con ?_ | refine gi_bip (Nat.le_of_ble_eq_true rfl) ?_ | refine gi_sip (Nat.le_of_ble_eq_true rfl) ?_ | refine gi_ldc ?_ | refine gi_add ?_ | refine gi_inc rfl ?_ | refine gi_sub (by omega) ?_ | refine gi_mul ?_ | refine go_nx rfl ?_)
          refine gx_ge (fun c3 => ?_) (fun c3 => ?_)
          · rw [if_neg c3] at hp
            exact six k _ (by omega)
          · rw [if_pos c3] at hp
            repeat (first | refine gi_con ?_ | refine gi_bip (Nat.le_of_ble_eq_true rfl) ?_ | refine gi_sip (Nat.le_of_ble_eq_true rfl) ?_ | refine gi_ldc ?_ | refine gi_add ?_ | refine gi_inc rfl ?_ | refine gi_sub (by omega) ?_ | refine gi_mul ?_ | refine go_nx rfl ?_)
            refine go_jp rfl ?_
            exact ihm (k + 1) _ (by omega) (by omega)
      repeat (first | refine gi_con ?_ | refine gi_bip (Nat.le_of_ble_eq_true rfl) ?_ | refine gi_sip (Nat.le_of_ble_eq_true rfl) ?_ | refine gi_ldc ?_ | refine gi_add ?_ | refine gi_inc rfl ?_ | refine gi_sub (by omega) ?_ | refine gi_mul ?_ | refine go_nx rfl ?_)
      refine go_jp rfl ?_
      exact srch acc.length 0 _ (by omega) (by rw [List.drop_zero]; omega)
  have loop1 : ∀ (f i idx : Nat) (x5 x6 : Value), q_last B (q_val B e) < f + i → q_at (q_u8 B) (l0 - 1) B true (q_last B (q_val B e)) i idx → (q_els B (q_last B (q_val B e)) 2001 (q_val B e + 4)).any (fun i => decide (B i = 4)) = (q_els B (q_last B (q_val B e)) f i).any (fun i => decide (B i = 4)) → mm_Go E d 151 (mm_blk 151 1) [.ref o, .int (nI s), .int (nI e), .int (nI (q_val B e)), .int (nI i), x5, x6] [] (mH h o ad I C) Q := by
    intro f
    induction f with
    | zero =>
      intro i idx x5 x6 hf hat
      have := q_at_le hat
      omega
    | succ f ih =>
      intro i idx x5 x6 hf hat hany
      have hil := q_at_le hat
      rw [q_els_s B (q_last B (q_val B e)) f i] at hany
      repeat (first | refine gi_con ?_ | refine gi_bip (Nat.le_of_ble_eq_true rfl) ?_ | refine gi_sip (Nat.le_of_ble_eq_true rfl) ?_ | refine gi_ldc ?_ | refine gi_add ?_ | refine gi_inc rfl ?_ | refine gi_sub (by omega) ?_ | refine gi_mul ?_ | refine go_nx rfl ?_)
      refine go_step ?_
      refine g_callV (by decide) (by decide) (Nat.le_of_ble_eq_true rfl) (Nat.le_of_ble_eq_true rfl) mH_rcv (by omega) (Nat.le_of_ble_eq_true rfl) rfl ?_
      refine z_last (by omega) (hm _ _ (mFr_r C)) hw (by omega) (by omega) ?_
      repeat (first | refine gi_con ?_ | refine gi_bip (Nat.le_of_ble_eq_true rfl) ?_ | refine gi_sip (Nat.le_of_ble_eq_true rfl) ?_ | refine gi_ldc ?_ | refine gi_add ?_ | refine gi_inc rfl ?_ | refine gi_sub (by omega) ?_ | refine gi_mul ?_ | refine go_nx rfl ?_)
      first | refine gb_lt (by omega) (by omega) (fun c1 => ?_) (fun c1 => ?_) | refine gb_ge (by omega) (by omega) (fun c1 => ?_) (fun c1 => ?_) | refine gb_gt (by omega) (by omega) (fun c1 => ?_) (fun c1 => ?_) | refine gb_le (by omega) (by omega) (fun c1 => ?_) (fun c1 => ?_) | refine gb_eq (by omega) (by omega) (fun c1 => ?_) (fun c1 => ?_) | refine gb_ne (by omega) (by omega) (fun c1 => ?_) (fun c1 => ?_)
      · rw [if_neg (show ¬ i < q_last B (q_val B e) by omega)] at hany
        have hany : (q_els B (q_last B (q_val B e)) 2001 (q_val B e + 4)).any (fun i => decide (B i = 4)) = false := hany
        rw [if_neg (by rw [hany]; decide)] at hq
        repeat (first | refine gi_con ?_ | refine gi_bip (Nat.le_of_ble_eq_true rfl) ?_ | refine gi_sip (Nat.le_of_ble_eq_true rfl) ?_ | refine gi_ldc ?_ | refine gi_add ?_ | refine gi_inc rfl ?_ | refine gi_sub (by omega) ?_ | refine gi_mul ?_ | refine go_nx rfl ?_)
        refine go_jp rfl ?_
        refine loop2 2001 (q_val B e + 4) 0 [] C _ _ (by omega) b5 ?_ (mFr_r C) (fun r hr => by cases hr) (by simp) hq
        have : uf S s [] = S := by
          funext j
          unfold uf
          split
          · rename_i hj
            rw [hj, hs0]
          · rfl
        rw [this]
        exact hS
      have c1' : i < q_last B (q_val B e) := by omega
      rw [if_pos c1', List.any_cons] at hany
      have hel := q_at_el hat c1'
      have hme := q_me_at (n := n) hat c1' (by omega)
      have hoki := q_me_ok hme
      have hnx := q_at_le hel.2.2.2.2
      obtain ⟨j1, j2, j3⟩ := q_ok_in hw.2.2 hoki
      have hBi := hw.2.2.2.1 i
      repeat (first | refine gi_con ?_ | refine gi_bip (Nat.le_of_ble_eq_true rfl) ?_ | refine gi_sip (Nat.le_of_ble_eq_true rfl) ?_ | refine gi_ldc ?_ | refine gi_add ?_ | refine gi_inc rfl ?_ | refine gi_sub (by omega) ?_ | refine gi_mul ?_ | refine go_nx rfl ?_)
      refine go_step ?_
      refine g_callV (by decide) (by decide) (Nat.le_of_ble_eq_true rfl) (Nat.le_of_ble_eq_true rfl) mH_rcv (by omega) (Nat.le_of_ble_eq_true rfl) rfl ?_
      refine z_at (hm _ _ (mFr_r C)) hw hoki.1 ?_
      repeat (first | refine gi_con ?_ | refine gi_bip (Nat.le_of_ble_eq_true rfl) ?_ | refine gi_sip (Nat.le_of_ble_eq_true rfl) ?_ | refine gi_ldc ?_ | refine gi_add ?_ | refine gi_inc rfl ?_ | refine gi_sub (by omega) ?_ | refine gi_mul ?_ | refine go_nx rfl ?_)
      first | refine gb_lt (by omega) (by omega) (fun c2 => ?_) (fun c2 => ?_) | refine gb_ge (by omega) (by omega) (fun c2 => ?_) (fun c2 => ?_) | refine gb_gt (by omega) (by omega) (fun c2 => ?_) (fun c2 => ?_) | refine gb_le (by omega) (by omega) (fun c2 => ?_) (fun c2 => ?_) | refine gb_eq (by omega) (by omega) (fun c2 => ?_) (fun c2 => ?_) | refine gb_ne (by omega) (by omega) (fun c2 => ?_) (fun c2 => ?_)
      · rw [decide_eq_false c2, Bool.false_or] at hany
        repeat (first | refine gi_con ?_ | refine gi_bip (Nat.le_of_ble_eq_true rfl) ?_ | refine gi_sip (Nat.le_of_ble_eq_true rfl) ?_ | refine gi_ldc ?_ | refine gi_add ?_ | refine gi_inc rfl ?_ | refine gi_sub (by omega) ?_ | refine gi_mul ?_ | refine go_nx rfl ?_)
        refine go_step ?_
        refine g_callV (by decide) (by decide) (Nat.le_of_ble_eq_true rfl) (Nat.le_of_ble_eq_true rfl) mH_rcv (by omega) (Nat.le_of_ble_eq_true rfl) rfl ?_
        refine z_next (by omega) (hm _ _ (mFr_r C)) hw hoki ?_
        repeat (first | refine gi_con ?_ | refine gi_bip (Nat.le_of_ble_eq_true rfl) ?_ | refine gi_sip (Nat.le_of_ble_eq_true rfl) ?_ | refine gi_ldc ?_ | refine gi_add ?_ | refine gi_inc rfl ?_ | refine gi_sub (by omega) ?_ | refine gi_mul ?_ | refine go_nx rfl ?_)
        refine go_jp rfl ?_
        exact ih (q_next B i) (idx + 1) _ _ (by omega) hel.2.2.2.2 hany
      · rw [decide_eq_true c2, Bool.true_or] at hany
        rw [if_pos hany] at hq
        repeat (first | refine gi_con ?_ | refine gi_bip (Nat.le_of_ble_eq_true rfl) ?_ | refine gi_sip (Nat.le_of_ble_eq_true rfl) ?_ | refine gi_ldc ?_ | refine gi_add ?_ | refine gi_inc rfl ?_ | refine gi_sub (by omega) ?_ | refine gi_mul ?_ | refine go_nx rfl ?_)
        refine go_rt rfl ?_
        refine hq C ?_ (mFr_r C)
        have : uf S s [] = S := by
          funext j
          unfold uf
          split
          · rename_i hj
            rw [hj, hs0]
          · rfl
        show mS3 C (uf S s [])
        rw [this]
        exact hS
  repeat (first | refine gi_con ?_ | refine gi_bip (Nat.le_of_ble_eq_true rfl) ?_ | refine gi_sip (Nat.le_of_ble_eq_true rfl) ?_ | refine gi_ldc ?_ | refine gi_add ?_ | refine gi_inc rfl ?_ | refine gi_sub (by omega) ?_ | refine gi_mul ?_ | refine go_nx rfl ?_)
  refine go_step ?_
  refine g_callV (by decide) (by decide) (Nat.le_of_ble_eq_true rfl) (Nat.le_of_ble_eq_true rfl) mH_rcv (by omega) (Nat.le_of_ble_eq_true rfl) rfl ?_
  refine z_val (by omega) (hm _ _ (mFr_r C)) hw hok.2.1 ?_
  repeat (first | refine gi_con ?_ | refine gi_bip (Nat.le_of_ble_eq_true rfl) ?_ | refine gi_sip (Nat.le_of_ble_eq_true rfl) ?_ | refine gi_ldc ?_ | refine gi_add ?_ | refine gi_inc rfl ?_ | refine gi_sub (by omega) ?_ | refine gi_mul ?_ | refine go_nx rfl ?_)
  refine go_jp rfl ?_
  exact loop1 2001 (q_val B e + 4) 0 _ _ (by omega) b5 rfl
end M
