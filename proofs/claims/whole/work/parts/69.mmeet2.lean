/-! bounds that meet -/
def q_lowB (ob : Nat → Nat → Int32) (x y : qE) : Bool := decide (q_std ob x y < 0) || (decide (q_std ob x y = 0) && decide (y.2.2.1 < x.2.2.1))
def q_highB (ob : Nat → Nat → Int32) (x y : qE) : Bool := decide (0 < q_std ob x y) || (decide (q_std ob x y = 0) && decide (y.2.2.1 < x.2.2.1))
def q_mlow (ob : Nat → Nat → Int32) (x y : qR) : qE := if q_lowB ob x.1 y.1 = true then y.1 else x.1
def q_mhigh (ob : Nat → Nat → Int32) (x y : qR) : qE := if q_highB ob x.2 y.2 = true then y.2 else x.2
def q_way (ob : Nat → Nat → Int32) (lo hi : qE) : Bool := decide (q_std ob lo hi < 0) || (decide (q_std ob lo hi = 0) && (decide (lo.2.2.1 = 1) && decide (hi.2.2.1 = 1)))
def q_met (ob : Nat → Nat → Int32) (x y : qR) : Option qR := if q_way ob (q_mlow ob x y) (q_mhigh ob x y) = true then some (q_mlow ob x y, q_mhigh ob x y) else none
def q_meet (ob : Nat → Nat → Int32) (a b : List qR) : List qR := a.flatMap (fun x => b.filterMap (fun y => q_met ob x y))
section GX
variable {E : mmE} {d m pc : Nat} {is : List mmI} {L S : List Value} {h : mmH} {Q : Option Value → mmH → Prop} {ex : List Nat} {off : Int} {x : Int32}
theorem gx_lt (h1 : x < 0 → mm_Go E d m (mm_blk m (mm_k0 ex)) L S h Q) (h2 : ¬ x < 0 → mm_Go E d m is L S h Q) : mm_Go E d m ((pc, .ifCond .lt off, ex) :: is) L (.int x :: S) h Q := go_br (c := decide (x < 0)) rfl (fun c => h1 (of_decide_eq_true c)) (fun c => h2 (of_decide_eq_false c))
theorem gx_gt (h1 : 0 < x → mm_Go E d m (mm_blk m (mm_k0 ex)) L S h Q) (h2 : ¬ 0 < x → mm_Go E d m is L S h Q) : mm_Go E d m ((pc, .ifCond .gt off, ex) :: is) L (.int x :: S) h Q := go_br (c := decide (0 < x)) rfl (fun c => h1 (of_decide_eq_true c)) (fun c => h2 (of_decide_eq_false c))
theorem gx_ge (h1 : ¬ x < 0 → mm_Go E d m (mm_blk m (mm_k0 ex)) L S h Q) (h2 : x < 0 → mm_Go E d m is L S h Q) : mm_Go E d m ((pc, .ifCond .ge off, ex) :: is) L (.int x :: S) h Q := go_br (c := decide (0 ≤ x)) rfl (fun c => h1 (Int32.not_lt.mpr (of_decide_eq_true c))) (fun c => h2 (Int32.not_le.mp (of_decide_eq_false c)))
end GX
section M
variable {E : mmE} {d : Nat} {h : mmH} {Q : Option Value → mmH → Prop} {o : Nat} {ad : Nat → Nat} {I : Nat → Int32} {C : Nat → Nat → Int32} {S : Nat → List qR} {R B : Nat → Nat} {n : Nat}
theorem sp_mwriteE {s : Nat} {lo hi : qE} (hD : mD o ad) (hS : mS3 C S) (hs : s < 3) (hl : (S s).length < 1000) (hq : ∀ C', mS3 C' (uf S s (S s ++ [(lo, hi)])) → mFr C C' → Q none (mH h o ad I C')) : mm_Go E d 158 (mm_blk 158 0) [.ref o, .int (nI s), .int (q_ef lo 0), .int (q_ef lo 1), .int (q_ef lo 2), .int (q_ef lo 3), .int (q_ef hi 0), .int (q_ef hi 1), .int (q_ef hi 2), .int (q_ef hi 3), mm_un] [] (mH h o ad I C) Q := sp_mwrite (r := (lo, hi)) hD hS hs hl hq
theorem sp_mfl {s k : Nat} {x : qR} (f : Nat) (hD : mD o ad) (hS : mS3 C S) (hs : s < 3) (hk : k < (S s).length) (hx : (S s).getD k q_r0 = x) (hf : f < 4) (hq : Q (some (.int (q_ef x.1 f))) (mH h o ad I C)) : mm_Go E d 152 (mm_blk 152 0) [.ref o, .int (nI s), .int (nI k), .int (nI f)] [] (mH h o ad I C) Q := by
  refine sp_mfield hD hS hs hk (by omega) ?_
  rw [hx]
  unfold q_rf
  rw [if_pos hf]
  exact hq
theorem sp_mfh {s k : Nat} {x : qR} (f : Nat) (hD : mD o ad) (hS : mS3 C S) (hs : s < 3) (hk : k < (S s).length) (hx : (S s).getD k q_r0 = x) (hf : 4 ≤ f ∧ f < 8) (hq : Q (some (.int (q_ef x.2 (f - 4)))) (mH h o ad I C)) : mm_Go E d 152 (mm_blk 152 0) [.ref o, .int (nI s), .int (nI k), .int (nI f)] [] (mH h o ad I C) Q := by
  refine sp_mfield hD hS hs hk (by omega) ?_
  rw [hx]
  unfold q_rf
  rw [if_neg (by omega)]
  exact hq
theorem sp_mstd {st : Nat} {h : mmH} {x y : qE} (hd : 42 ≤ d) (hm : mSt h o st R) (hw : mW R 0 n B) (hx : q_okE B n x) (hy : q_okE B n y) (hq : Q (some (.int (q_std (q_ord B B 17) x y))) h) : mm_Go E d 160 (mm_blk 160 0) [.ref o, .int (q_ef x 0), .int (q_ef x 1), .int (q_ef x 3), .int (q_ef y 0), .int (q_ef y 1), .int (q_ef y 3)] [] h Q := by
  obtain ⟨x1, x2, x3, x4, x5⟩ := hx
  obtain ⟨y1, y2, y3, y4, y5⟩ := hy
  refine sp_mstand (ob := q_ord B B 17) (by omega) (mSt_rcv hm) (by omega) (by omega) (fun e1 e2 _ Q' hq' => ?_) hq
  obtain ⟨-, l1, hl1, m1⟩ := x5 e1
  obtain ⟨-, l2, hl2, m2⟩ := y5 e2
  rw [show q_ef y 3 = nI y.2.2.2 from by unfold q_ef; rw [if_neg (by decide), if_neg (by decide), if_neg (by decide), if_pos e2]]
  exact z_ord (by omega) hm hw hl1 hl2 m1 m2 hq'
set_option maxHeartbeats 20000000 in
theorem sp_mmeet {a t c : Nat} (hd : 44 ≤ d) (hD : mD o ad) (hC : ∀ j, j < 22100 → C 1 j = sb_b (R j)) (hR : ∀ j, R j < 256) (hw : mW R 0 n B) (hS : mS3 C S) (ha : a < 3) (ht : t < 3) (hc : c < 3) (hac : a ≠ c) (htc : t ≠ c) (hoa : ∀ x ∈ S a, q_okR B n x) (hot : ∀ x ∈ S t, q_okR B n x) (hlen : (q_meet (q_ord B B 17) (S a) (S t)).length ≤ 1000)
    (hq : ∀ C', mS3 C' (uf (uf S c (q_meet (q_ord B B 17) (S a) (S t))) a (q_meet (q_ord B B 17) (S a) (S t))) → mFr C C' → Q none (mH h o ad I C')) : mm_Go E d 159 (mm_blk 159 0) [.ref o, .int (nI a), .int (nI t), .int (nI c), mm_un, mm_un, mm_un, mm_un, mm_un, mm_un, mm_un, mm_un, mm_un, mm_un, mm_un] [] (mH h o ad I C) Q := by
  have la := (hS a ha).1
  have lt := (hS t ht).1
  have hm : ∀ (I : Nat → Int32) (C' : Nat → Nat → Int32), mFr C C' → mSt (mH h o ad I C') o (ad 1) R := fun I C' hf => mH_st hD (fun j hj => by rw [hf 1 (by decide) (by decide)]; exact hC j hj) hR
  have getm : ∀ (l : List qR) (k : Nat), k < l.length → l.getD k q_r0 ∈ l := by
    intro l k hk
    rw [List.getD_eq_getElem?_getD, List.getElem?_eq_getElem hk]
    exact List.getElem_mem hk
  have inner : ∀ (i : Nat) (x : qR), i < (S a).length → (S a).getD i q_r0 = x → ∀ (k j : Nat) (acc : List qR) (C1 : Nat → Nat → Int32) (x6 x7 x8 x9 x10 x11 x12 x13 x14 : Value), k + j = (S t).length → mS3 C1 (uf S c acc) → mFr C C1 → (acc ++ ((S t).drop j).filterMap (fun y => q_met (q_ord B B 17) x y)).length ≤ 1000 →
      (∀ (C2 : Nat → Nat → Int32) (x5 x6 x7 x8 x9 x10 x11 x12 x13 x14 : Value), mS3 C2 (uf S c (acc ++ ((S t).drop j).filterMap (fun y => q_met (q_ord B B 17) x y))) → mFr C C2 → mm_Go E d 159 (mm_blk 159 19) [.ref o, .int (nI a), .int (nI t), .int (nI c), .int (nI i), x5, x6, x7, x8, x9, x10, x11, x12, x13, x14] [] (mH h o ad I C2) Q) →
      mm_Go E d 159 (mm_blk 159 2) [.ref o, .int (nI a), .int (nI t), .int (nI c), .int (nI i), .int (nI j), x6, x7, x8, x9, x10, x11, x12, x13, x14] [] (mH h o ad I C1) Q := by
    intro i x hi hx k
    induction k with
    | zero =>
      intro j acc C1 x6 x7 x8 x9 x10 x11 x12 x13 x14 hk hS1 hF1 hl1 hnext
      have e : ((S t).drop j).filterMap (fun y => q_met (q_ord B B 17) x y) = [] := by rw [List.drop_of_length_le (by omega)]; rfl
      rw [e, List.append_nil] at hnext
      repeat (first | refine gi_con ?_ | refine gi_bip (Nat.le_of_ble_eq_true rfl) ?_ | refine gi_sip (Nat.le_of_ble_eq_true rfl) ?_ | refine gi_ldc ?_ | refine gi_add ?_ | refine gi_inc rfl ?_ | refine gi_sub (by omega) ?_ | refine gi_mul ?_ | refine go_nx rfl ?_)
      refine gm_get (.ref (ad 14)) rfl rfl ?_
      repeat (first | refine gi_con ?_ | refine gi_bip (Nat.le_of_ble_eq_true rfl) ?_ | refine gi_sip (Nat.le_of_ble_eq_true rfl) ?_ | refine gi_ldc ?_ | refine gi_add ?_ | refine gi_inc rfl ?_ | refine gi_sub (by omega) ?_ | refine gi_mul ?_ | refine go_nx rfl ?_)
      refine gm_ild hD (by decide) rfl (show t < 3 from ht) (by decide) ?_
      rw [(hS1 t ht).2.1, uf_ne htc]
      repeat (first | refine gi_con ?_ | refine gi_bip (Nat.le_of_ble_eq_true rfl) ?_ | refine gi_sip (Nat.le_of_ble_eq_true rfl) ?_ | refine gi_ldc ?_ | refine gi_add ?_ | refine gi_inc rfl ?_ | refine gi_sub (by omega) ?_ | refine gi_mul ?_ | refine go_nx rfl ?_)
      first | refine gb_lt (by omega) (by omega) (fun c1 => ?_) (fun c1 => ?_) | refine gb_ge (by omega) (by omega) (fun c1 => ?_) (fun c1 => ?_) | refine gb_gt (by omega) (by omega) (fun c1 => ?_) (fun c1 => ?_) | refine gb_le (by omega) (by omega) (fun c1 => ?_) (fun c1 => ?_) | refine gb_eq (by omega) (by omega) (fun c1 => ?_) (fun c1 => ?_) | refine gb_ne (by omega) (by omega) (fun c1 => ?_) (fun c1 => ?_)
      · exact hnext C1 _ _ _ _ _ _ _ _ _ _ hS1 hF1
      · omega
    | succ k ih =>
      intro j acc C1 x6 x7 x8 x9 x10 x11 x12 x13 x14 hk hS1 hF1 hl1 hnext
      have hj : j < (S t).length := by omega
      have hS1a : ((uf S c acc) a) = S a := uf_ne hac
      have hS1t : ((uf S c acc) t) = S t := uf_ne htc
      have hia : i < ((uf S c acc) a).length := by rw [hS1a]; exact hi
      have hjt : j < ((uf S c acc) t).length := by rw [hS1t]; exact hj
      generalize hy : (S t).getD j q_r0 = y
      have exa : ((uf S c acc) a).getD i q_r0 = x := by rw [hS1a]; exact hx
      have eyt : ((uf S c acc) t).getD j q_r0 = y := by rw [hS1t]; exact hy
      have okx : q_okR B n x := by rw [← hx]; exact hoa _ (getm _ _ hi)
      have oky : q_okR B n y := by rw [← hy]; exact hot _ (getm _ _ hj)
      obtain ⟨⟨p1, p2, p3, p4, p5⟩, ⟨p6, p7, p8, p9, p10⟩⟩ := okx
      obtain ⟨⟨r1, r2, r3, r4, r5⟩, ⟨r6, r7, r8, r9, r10⟩⟩ := oky
      have okx : q_okR B n x := by rw [← hx]; exact hoa _ (getm _ _ hi)
      have oky : q_okR B n y := by rw [← hy]; exact hot _ (getm _ _ hj)
      have edrop : (S t).drop j = y :: (S t).drop (j + 1) := by
        rw [List.drop_eq_getElem_cons hj]
        rw [List.getD_eq_getElem?_getD, List.getElem?_eq_getElem hj] at hy
        rw [← hy]
        rfl
      have eighteen : ∀ (C2 : Nat → Nat → Int32) (x6 x7 x8 x9 x10 x11 x12 x13 x14 : Value), mS3 C2 (uf S c (acc ++ (q_met (q_ord B B 17) x y).toList)) → mFr C C2 → mm_Go E d 159 (mm_blk 159 18) [.ref o, .int (nI a), .int (nI t), .int (nI c), .int (nI i), .int (nI j), x6, x7, x8, x9, x10, x11, x12, x13, x14] [] (mH h o ad I C2) Q := by
        intro C2 x6 x7 x8 x9 x10 x11 x12 x13 x14 hS2 hF2
        have e : acc ++ ((S t).drop j).filterMap (fun y => q_met (q_ord B B 17) x y) = (acc ++ (q_met (q_ord B B 17) x y).toList) ++ ((S t).drop (j + 1)).filterMap (fun y => q_met (q_ord B B 17) x y) := by
          rw [edrop, List.filterMap_cons]
          cases q_met (q_ord B B 17) x y with
          | none => simp
          | some z => simp
        rw [e] at hl1 hnext
        repeat (first | refine gi_con ?_ | refine gi_bip (Nat.le_of_ble_eq_true rfl) ?_ | refine gi_sip (Nat.le_of_ble_eq_true rfl) ?_ | refine gi_ldc ?_ | refine gi_add ?_ | refine gi_inc rfl ?_ | refine gi_sub (by omega) ?_ | refine gi_mul ?_ | refine go_nx rfl ?_)
        refine go_jp rfl ?_
        exact ih (j + 1) _ C2 _ _ _ _ _ _ _ _ _ (by omega) hS2 hF2 hl1 hnext
      have sixteen : ∀ (s1 k1 s2 k2 z6 z7 z8 z9 : Nat) (u v : qR) (x6 x7 : Int32) (x8 x9 : Bool) (x13 x14 : Value), s1 < 3 → s2 < 3 → k1 < ((uf S c acc) s1).length → k2 < ((uf S c acc) s2).length → ((uf S c acc) s1).getD k1 q_r0 = u → ((uf S c acc) s2).getD k2 q_r0 = v → u.1 = q_mlow (q_ord B B 17) x y → v.2 = q_mhigh (q_ord B B 17) x y → q_okE B n u.1 → q_okE B n v.2 → mm_Go E d 159 (mm_blk 159 16) [.ref o, .int (nI a), .int (nI t), .int (nI c), .int (nI i), .int (nI j), .int x6, .int x7, .int (q_t x8), .int (q_t x9), .int (nI s1), .int (nI k1), .int (nI s2), x13, x14] [.int (nI k2)] (mH h o ad I C1) Q := by
        intro s1 k1 s2 k2 z6 z7 z8 z9 u v x6 x7 x8 x9 x13 x14 hs1 hs2 hk1 hk2 hu hv hlo hhi ok1 ok2
        have emet : q_met (q_ord B B 17) x y = if q_way (q_ord B B 17) u.1 v.2 = true then some (u.1, v.2) else none := by
          unfold q_met
          rw [← hlo, ← hhi]
        have hlow2 := ok1.2.2.2.1
        have hhigh2 := ok2.2.2.2.1
        have seventeen : ∀ (x14 : Int32), q_way (q_ord B B 17) u.1 v.2 = true → mm_Go E d 159 (mm_blk 159 17) [.ref o, .int (nI a), .int (nI t), .int (nI c), .int (nI i), .int (nI j), .int x6, .int x7, .int (q_t x8), .int (q_t x9), .int (nI s1), .int (nI k1), .int (nI s2), .int (nI k2), .int x14] [] (mH h o ad I C1) Q := by
          intro x14 hway
          rw [if_pos hway] at emet
          have hroom : acc.length < 1000 := by
            rw [edrop, List.filterMap_cons, emet] at hl1
            rw [List.length_append, List.length_cons] at hl1
            omega
          repeat (first | refine gi_con ?_ | refine gi_bip (Nat.le_of_ble_eq_true rfl) ?_ | refine gi_sip (Nat.le_of_ble_eq_true rfl) ?_ | refine gi_ldc ?_ | refine gi_add ?_ | refine gi_inc rfl ?_ | refine gi_sub (by omega) ?_ | refine gi_mul ?_ | refine go_nx rfl ?_)
          refine go_step ?_
          refine g_callV (by decide) (by decide) (Nat.le_of_ble_eq_true rfl) (Nat.le_of_ble_eq_true rfl) mH_rcv (by omega) (Nat.le_of_ble_eq_true rfl) rfl ?_
          refine sp_mfl 0 hD hS1 hs1 hk1 hu (by omega) ?_
          repeat (first | refine gi_con ?_ | refine gi_bip (Nat.le_of_ble_eq_true rfl) ?_ | refine gi_sip (Nat.le_of_ble_eq_true rfl) ?_ | refine gi_ldc ?_ | refine gi_add ?_ | refine gi_inc rfl ?_ | refine gi_sub (by omega) ?_ | refine gi_mul ?_ | refine go_nx rfl ?_)
          refine go_step ?_
          refine g_callV (by decide) (by decide) (Nat.le_of_ble_eq_true rfl) (Nat.le_of_ble_eq_true rfl) mH_rcv (by omega) (Nat.le_of_ble_eq_true rfl) rfl ?_
          refine sp_mfl 1 hD hS1 hs1 hk1 hu (by omega) ?_
          repeat (first | refine gi_con ?_ | refine gi_bip (Nat.le_of_ble_eq_true rfl) ?_ | refine gi_sip (Nat.le_of_ble_eq_true rfl) ?_ | refine gi_ldc ?_ | refine gi_add ?_ | refine gi_inc rfl ?_ | refine gi_sub (by omega) ?_ | refine gi_mul ?_ | refine go_nx rfl ?_)
          refine go_step ?_
          refine g_callV (by decide) (by decide) (Nat.le_of_ble_eq_true rfl) (Nat.le_of_ble_eq_true rfl) mH_rcv (by omega) (Nat.le_of_ble_eq_true rfl) rfl ?_
          refine sp_mfl 2 hD hS1 hs1 hk1 hu (by omega) ?_
          repeat (first | refine gi_con ?_ | refine gi_bip (Nat.le_of_ble_eq_true rfl) ?_ | refine gi_sip (Nat.le_of_ble_eq_true rfl) ?_ | refine gi_ldc ?_ | refine gi_add ?_ | refine gi_inc rfl ?_ | refine gi_sub (by omega) ?_ | refine gi_mul ?_ | refine go_nx rfl ?_)
          refine go_step ?_
          refine g_callV (by decide) (by decide) (Nat.le_of_ble_eq_true rfl) (Nat.le_of_ble_eq_true rfl) mH_rcv (by omega) (Nat.le_of_ble_eq_true rfl) rfl ?_
          refine sp_mfl 3 hD hS1 hs1 hk1 hu (by omega) ?_
          repeat (first | refine gi_con ?_ | refine gi_bip (Nat.le_of_ble_eq_true rfl) ?_ | refine gi_sip (Nat.le_of_ble_eq_true rfl) ?_ | refine gi_ldc ?_ | refine gi_add ?_ | refine gi_inc rfl ?_ | refine gi_sub (by omega) ?_ | refine gi_mul ?_ | refine go_nx rfl ?_)
          refine go_step ?_
          refine g_callV (by decide) (by decide) (Nat.le_of_ble_eq_true rfl) (Nat.le_of_ble_eq_true rfl) mH_rcv (by omega) (Nat.le_of_ble_eq_true rfl) rfl ?_
          refine sp_mfh 4 hD hS1 hs2 hk2 hv (by omega) ?_
          repeat (first | refine gi_con ?_ | refine gi_bip (Nat.le_of_ble_eq_true rfl) ?_ | refine gi_sip (Nat.le_of_ble_eq_true rfl) ?_ | refine gi_ldc ?_ | refine gi_add ?_ | refine gi_inc rfl ?_ | refine gi_sub (by omega) ?_ | refine gi_mul ?_ | refine go_nx rfl ?_)
          refine go_step ?_
          refine g_callV (by decide) (by decide) (Nat.le_of_ble_eq_true rfl) (Nat.le_of_ble_eq_true rfl) mH_rcv (by omega) (Nat.le_of_ble_eq_true rfl) rfl ?_
          refine sp_mfh 5 hD hS1 hs2 hk2 hv (by omega) ?_
          repeat (first | refine gi_con ?_ | refine gi_bip (Nat.le_of_ble_eq_true rfl) ?_ | refine gi_sip (Nat.le_of_ble_eq_true rfl) ?_ | refine gi_ldc ?_ | refine gi_add ?_ | refine gi_inc rfl ?_ | refine gi_sub (by omega) ?_ | refine gi_mul ?_ | refine go_nx rfl ?_)
          refine go_step ?_
          refine g_callV (by decide) (by decide) (Nat.le_of_ble_eq_true rfl) (Nat.le_of_ble_eq_true rfl) mH_rcv (by omega) (Nat.le_of_ble_eq_true rfl) rfl ?_
          refine sp_mfh 6 hD hS1 hs2 hk2 hv (by omega) ?_
          repeat (first | refine gi_con ?_ | refine gi_bip (Nat.le_of_ble_eq_true rfl) ?_ | refine gi_sip (Nat.le_of_ble_eq_true rfl) ?_ | refine gi_ldc ?_ | refine gi_add ?_ | refine gi_inc rfl ?_ | refine gi_sub (by omega) ?_ | refine gi_mul ?_ | refine go_nx rfl ?_)
          refine go_step ?_
          refine g_callV (by decide) (by decide) (Nat.le_of_ble_eq_true rfl) (Nat.le_of_ble_eq_true rfl) mH_rcv (by omega) (Nat.le_of_ble_eq_true rfl) rfl ?_
          refine sp_mfh 7 hD hS1 hs2 hk2 hv (by omega) ?_
          repeat (first | refine gi_con ?_ | refine gi_bip (Nat.le_of_ble_eq_true rfl) ?_ | refine gi_sip (Nat.le_of_ble_eq_true rfl) ?_ | refine gi_ldc ?_ | refine gi_add ?_ | refine gi_inc rfl ?_ | refine gi_sub (by omega) ?_ | refine gi_mul ?_ | refine go_nx rfl ?_)
          refine go_step ?_
          refine g_callV (by decide) (by decide) (Nat.le_of_ble_eq_true rfl) (Nat.le_of_ble_eq_true rfl) mH_rcv (by omega) (Nat.le_of_ble_eq_true rfl) rfl ?_
          refine sp_mwriteE (lo := u.1) (hi := v.2) hD hS1 hc (by rw [uf_at]; exact hroom) (fun C2 hS2 hF2 => ?_)
          repeat (first | refine gi_con ?_ | refine gi_bip (Nat.le_of_ble_eq_true rfl) ?_ | refine gi_sip (Nat.le_of_ble_eq_true rfl) ?_ | refine gi_ldc ?_ | refine gi_add ?_ | refine gi_inc rfl ?_ | refine gi_sub (by omega) ?_ | refine gi_mul ?_ | refine go_nx rfl ?_)
          refine go_jp rfl ?_
          rw [uf_uf, uf_at] at hS2
          refine eighteen C2 _ _ _ _ _ _ _ _ _ ?_ (mFr_t hF1 hF2)
          rw [emet]
          exact hS2
        have no : ∀ (x14 : Int32), q_way (q_ord B B 17) u.1 v.2 = false → mm_Go E d 159 (mm_blk 159 18) [.ref o, .int (nI a), .int (nI t), .int (nI c), .int (nI i), .int (nI j), .int x6, .int x7, .int (q_t x8), .int (q_t x9), .int (nI s1), .int (nI k1), .int (nI s2), .int (nI k2), .int x14] [] (mH h o ad I C1) Q := by
          intro x14 hway
          rw [hway, if_neg (by decide)] at emet
          refine eighteen C1 _ _ _ _ _ _ _ _ _ ?_ hF1
          rw [emet]
          show mS3 C1 (uf S c (acc ++ []))
          rw [List.append_nil]
          exact hS1
        repeat (first | refine gi_con ?_ | refine gi_bip (Nat.le_of_ble_eq_true rfl) ?_ | refine gi_sip (Nat.le_of_ble_eq_true rfl) ?_ | refine gi_ldc ?_ | refine gi_add ?_ | refine gi_inc rfl ?_ | refine gi_sub (by omega) ?_ | refine gi_mul ?_ | refine go_nx rfl ?_)
        refine go_step ?_
        refine g_callV (by decide) (by decide) (Nat.le_of_ble_eq_true rfl) (Nat.le_of_ble_eq_true rfl) mH_rcv (by omega) (Nat.le_of_ble_eq_true rfl) rfl ?_
        refine sp_mfl 0 hD hS1 hs1 hk1 hu (by omega) ?_
        repeat (first | refine gi_con ?_ | refine gi_bip (Nat.le_of_ble_eq_true rfl) ?_ | refine gi_sip (Nat.le_of_ble_eq_true rfl) ?_ | refine gi_ldc ?_ | refine gi_add ?_ | refine gi_inc rfl ?_ | refine gi_sub (by omega) ?_ | refine gi_mul ?_ | refine go_nx rfl ?_)
        refine go_step ?_
        refine g_callV (by decide) (by decide) (Nat.le_of_ble_eq_true rfl) (Nat.le_of_ble_eq_true rfl) mH_rcv (by omega) (Nat.le_of_ble_eq_true rfl) rfl ?_
        refine sp_mfl 1 hD hS1 hs1 hk1 hu (by omega) ?_
        repeat (first | refine gi_con ?_ | refine gi_bip (Nat.le_of_ble_eq_true rfl) ?_ | refine gi_sip (Nat.le_of_ble_eq_true rfl) ?_ | refine gi_ldc ?_ | refine gi_add ?_ | refine gi_inc rfl ?_ | refine gi_sub (by omega) ?_ | refine gi_mul ?_ | refine go_nx rfl ?_)
        refine go_step ?_
        refine g_callV (by decide) (by decide) (Nat.le_of_ble_eq_true rfl) (Nat.le_of_ble_eq_true rfl) mH_rcv (by omega) (Nat.le_of_ble_eq_true rfl) rfl ?_
        refine sp_mfl 3 hD hS1 hs1 hk1 hu (by omega) ?_
        repeat (first | refine gi_con ?_ | refine gi_bip (Nat.le_of_ble_eq_true rfl) ?_ | refine gi_sip (Nat.le_of_ble_eq_true rfl) ?_ | refine gi_ldc ?_ | refine gi_add ?_ | refine gi_inc rfl ?_ | refine gi_sub (by omega) ?_ | refine gi_mul ?_ | refine go_nx rfl ?_)
        refine go_step ?_
        refine g_callV (by decide) (by decide) (Nat.le_of_ble_eq_true rfl) (Nat.le_of_ble_eq_true rfl) mH_rcv (by omega) (Nat.le_of_ble_eq_true rfl) rfl ?_
        refine sp_mfh 4 hD hS1 hs2 hk2 hv (by omega) ?_
        repeat (first | refine gi_con ?_ | refine gi_bip (Nat.le_of_ble_eq_true rfl) ?_ | refine gi_sip (Nat.le_of_ble_eq_true rfl) ?_ | refine gi_ldc ?_ | refine gi_add ?_ | refine gi_inc rfl ?_ | refine gi_sub (by omega) ?_ | refine gi_mul ?_ | refine go_nx rfl ?_)
        refine go_step ?_
        refine g_callV (by decide) (by decide) (Nat.le_of_ble_eq_true rfl) (Nat.le_of_ble_eq_true rfl) mH_rcv (by omega) (Nat.le_of_ble_eq_true rfl) rfl ?_
        refine sp_mfh 5 hD hS1 hs2 hk2 hv (by omega) ?_
        repeat (first | refine gi_con ?_ | refine gi_bip (Nat.le_of_ble_eq_true rfl) ?_ | refine gi_sip (Nat.le_of_ble_eq_true rfl) ?_ | refine gi_ldc ?_ | refine gi_add ?_ | refine gi_inc rfl ?_ | refine gi_sub (by omega) ?_ | refine gi_mul ?_ | refine go_nx rfl ?_)
        refine go_step ?_
        refine g_callV (by decide) (by decide) (Nat.le_of_ble_eq_true rfl) (Nat.le_of_ble_eq_true rfl) mH_rcv (by omega) (Nat.le_of_ble_eq_true rfl) rfl ?_
        refine sp_mfh 7 hD hS1 hs2 hk2 hv (by omega) ?_
        repeat (first | refine gi_con ?_ | refine gi_bip (Nat.le_of_ble_eq_true rfl) ?_ | refine gi_sip (Nat.le_of_ble_eq_true rfl) ?_ | refine gi_ldc ?_ | refine gi_add ?_ | refine gi_inc rfl ?_ | refine gi_sub (by omega) ?_ | refine gi_mul ?_ | refine go_nx rfl ?_)
        refine go_step ?_
        refine g_callV (by decide) (by decide) (Nat.le_of_ble_eq_true rfl) (Nat.le_of_ble_eq_true rfl) mH_rcv (by omega) (Nat.le_of_ble_eq_true rfl) rfl ?_
        refine sp_mstd (by omega) (hm _ _ hF1) hw ok1 ok2 ?_
        unfold q_way at seventeen no
        repeat (first | refine gi_con ?_ | refine gi_bip (Nat.le_of_ble_eq_true rfl) ?_ | refine gi_sip (Nat.le_of_ble_eq_true rfl) ?_ | refine gi_ldc ?_ | refine gi_add ?_ | refine gi_inc rfl ?_ | refine gi_sub (by omega) ?_ | refine gi_mul ?_ | refine go_nx rfl ?_)
        refine gx_lt (fun c1 => ?_) (fun c1 => ?_)
        · exact seventeen _ (by rw [decide_eq_true c1]; rfl)
        rw [decide_eq_false c1, Bool.false_or] at seventeen no
        repeat (first | refine gi_con ?_ | refine gi_bip (Nat.le_of_ble_eq_true rfl) ?_ | refine gi_sip (Nat.le_of_ble_eq_true rfl) ?_ | refine gi_ldc ?_ | refine gi_add ?_ | refine gi_inc rfl ?_ | refine gi_sub (by omega) ?_ | refine gi_mul ?_ | refine go_nx rfl ?_)
        refine gx_ne (fun c2 => ?_) (fun c2 => ?_)
        · exact no _ (by rw [decide_eq_false c2]; rfl)
        rw [decide_eq_true c2, Bool.true_and] at seventeen no
        repeat (first | refine gi_con ?_ | refine gi_bip (Nat.le_of_ble_eq_true rfl) ?_ | refine gi_sip (Nat.le_of_ble_eq_true rfl) ?_ | refine gi_ldc ?_ | refine gi_add ?_ | refine gi_inc rfl ?_ | refine gi_sub (by omega) ?_ | refine gi_mul ?_ | refine go_nx rfl ?_)
        refine go_step ?_
        refine g_callV (by decide) (by decide) (Nat.le_of_ble_eq_true rfl) (Nat.le_of_ble_eq_true rfl) mH_rcv (by omega) (Nat.le_of_ble_eq_true rfl) rfl ?_
        refine sp_mfl 2 hD hS1 hs1 hk1 hu (by omega) ?_
        rw [show q_ef u.1 2 = nI u.1.2.2.1 from rfl]
        repeat (first | refine gi_con ?_ | refine gi_bip (Nat.le_of_ble_eq_true rfl) ?_ | refine gi_sip (Nat.le_of_ble_eq_true rfl) ?_ | refine gi_ldc ?_ | refine gi_add ?_ | refine gi_inc rfl ?_ | refine gi_sub (by omega) ?_ | refine gi_mul ?_ | refine go_nx rfl ?_)
        first | refine gb_lt (by omega) (by omega) (fun c3 => ?_) (fun c3 => ?_) | refine gb_ge (by omega) (by omega) (fun c3 => ?_) (fun c3 => ?_) | refine gb_gt (by omega) (by omega) (fun c3 => ?_) (fun c3 => ?_) | refine gb_le (by omega) (by omega) (fun c3 => ?_) (fun c3 => ?_) | refine gb_eq (by omega) (by omega) (fun c3 => ?_) (fun c3 => ?_) | refine gb_ne (by omega) (by omega) (fun c3 => ?_) (fun c3 => ?_)
        · exact no _ (by rw [decide_eq_false c3]; rfl)
        repeat (first | refine gi_con ?_ | refine gi_bip (Nat.le_of_ble_eq_true rfl) ?_ | refine gi_sip (Nat.le_of_ble_eq_true rfl) ?_ | refine gi_ldc ?_ | refine gi_add ?_ | refine gi_inc rfl ?_ | refine gi_sub (by omega) ?_ | refine gi_mul ?_ | refine go_nx rfl ?_)
        refine go_step ?_
        refine g_callV (by decide) (by decide) (Nat.le_of_ble_eq_true rfl) (Nat.le_of_ble_eq_true rfl) mH_rcv (by omega) (Nat.le_of_ble_eq_true rfl) rfl ?_
        refine sp_mfh 6 hD hS1 hs2 hk2 hv (by omega) ?_
        rw [show q_ef v.2 (6 - 4) = nI v.2.2.2.1 from rfl]
        repeat (first | refine gi_con ?_ | refine gi_bip (Nat.le_of_ble_eq_true rfl) ?_ | refine gi_sip (Nat.le_of_ble_eq_true rfl) ?_ | refine gi_ldc ?_ | refine gi_add ?_ | refine gi_inc rfl ?_ | refine gi_sub (by omega) ?_ | refine gi_mul ?_ | refine go_nx rfl ?_)
        first | refine gb_lt (by omega) (by omega) (fun c4 => ?_) (fun c4 => ?_) | refine gb_ge (by omega) (by omega) (fun c4 => ?_) (fun c4 => ?_) | refine gb_gt (by omega) (by omega) (fun c4 => ?_) (fun c4 => ?_) | refine gb_le (by omega) (by omega) (fun c4 => ?_) (fun c4 => ?_) | refine gb_eq (by omega) (by omega) (fun c4 => ?_) (fun c4 => ?_) | refine gb_ne (by omega) (by omega) (fun c4 => ?_) (fun c4 => ?_)
        · exact no _ (by rw [decide_eq_false c4, Bool.and_false])
        refine go_jp rfl ?_
        exact seventeen _ (by rw [decide_eq_true c3, decide_eq_true c4]; rfl)
      have eight : ∀ (x6 x7 : Int32) (x9 x10 x11 x12 x13 x14 : Value), mm_Go E d 159 (mm_blk 159 8) [.ref o, .int (nI a), .int (nI t), .int (nI c), .int (nI i), .int (nI j), .int x6, .int x7, .int (q_t (q_lowB (q_ord B B 17) x.1 y.1)), x9, x10, x11, x12, x13, x14] [.int (q_t (q_highB (q_ord B B 17) x.2 y.2))] (mH h o ad I C1) Q := by
        intro x6 x7 x9 x10 x11 x12 x13 x14
        have hlo : q_mlow (q_ord B B 17) x y = if q_lowB (q_ord B B 17) x.1 y.1 = true then y.1 else x.1 := rfl
        have hhi : q_mhigh (q_ord B B 17) x y = if q_highB (q_ord B B 17) x.2 y.2 = true then y.2 else x.2 := rfl
        repeat (first | refine gi_con ?_ | refine gi_bip (Nat.le_of_ble_eq_true rfl) ?_ | refine gi_sip (Nat.le_of_ble_eq_true rfl) ?_ | refine gi_ldc ?_ | refine gi_add ?_ | refine gi_inc rfl ?_ | refine gi_sub (by omega) ?_ | refine gi_mul ?_ | refine go_nx rfl ?_)
        first | refine gt_eq (fun c1 => ?_) (fun c1 => ?_) | refine gt_ne (fun c1 => ?_) (fun c1 => ?_)
        · repeat (first | refine gi_con ?_ | refine gi_bip (Nat.le_of_ble_eq_true rfl) ?_ | refine gi_sip (Nat.le_of_ble_eq_true rfl) ?_ | refine gi_ldc ?_ | refine gi_add ?_ | refine gi_inc rfl ?_ | refine gi_sub (by omega) ?_ | refine gi_mul ?_ | refine go_nx rfl ?_)
          refine go_jp rfl ?_
          repeat (first | refine gi_con ?_ | refine gi_bip (Nat.le_of_ble_eq_true rfl) ?_ | refine gi_sip (Nat.le_of_ble_eq_true rfl) ?_ | refine gi_ldc ?_ | refine gi_add ?_ | refine gi_inc rfl ?_ | refine gi_sub (by omega) ?_ | refine gi_mul ?_ | refine go_nx rfl ?_)
          first | refine gt_eq (fun c2 => ?_) (fun c2 => ?_) | refine gt_ne (fun c2 => ?_) (fun c2 => ?_)
          · repeat (first | refine gi_con ?_ | refine gi_bip (Nat.le_of_ble_eq_true rfl) ?_ | refine gi_sip (Nat.le_of_ble_eq_true rfl) ?_ | refine gi_ldc ?_ | refine gi_add ?_ | refine gi_inc rfl ?_ | refine gi_sub (by omega) ?_ | refine gi_mul ?_ | refine go_nx rfl ?_)
            refine go_jp rfl ?_
            repeat (first | refine gi_con ?_ | refine gi_bip (Nat.le_of_ble_eq_true rfl) ?_ | refine gi_sip (Nat.le_of_ble_eq_true rfl) ?_ | refine gi_ldc ?_ | refine gi_add ?_ | refine gi_inc rfl ?_ | refine gi_sub (by omega) ?_ | refine gi_mul ?_ | refine go_nx rfl ?_)
            first | refine gt_eq (fun c3 => ?_) (fun c3 => ?_) | refine gt_ne (fun c3 => ?_) (fun c3 => ?_)
            · repeat (first | refine gi_con ?_ | refine gi_bip (Nat.le_of_ble_eq_true rfl) ?_ | refine gi_sip (Nat.le_of_ble_eq_true rfl) ?_ | refine gi_ldc ?_ | refine gi_add ?_ | refine gi_inc rfl ?_ | refine gi_sub (by omega) ?_ | refine gi_mul ?_ | refine go_nx rfl ?_)
              refine go_jp rfl ?_
              repeat (first | refine gi_con ?_ | refine gi_bip (Nat.le_of_ble_eq_true rfl) ?_ | refine gi_sip (Nat.le_of_ble_eq_true rfl) ?_ | refine gi_ldc ?_ | refine gi_add ?_ | refine gi_inc rfl ?_ | refine gi_sub (by omega) ?_ | refine gi_mul ?_ | refine go_nx rfl ?_)
              first | refine gt_eq (fun c4 => ?_) (fun c4 => ?_) | refine gt_ne (fun c4 => ?_) (fun c4 => ?_)
              · repeat (first | refine gi_con ?_ | refine gi_bip (Nat.le_of_ble_eq_true rfl) ?_ | refine gi_sip (Nat.le_of_ble_eq_true rfl) ?_ | refine gi_ldc ?_ | refine gi_add ?_ | refine gi_inc rfl ?_ | refine gi_sub (by omega) ?_ | refine gi_mul ?_ | refine go_nx rfl ?_)
                refine go_jp rfl ?_
                exact sixteen a i a i 0 0 0 0 x x _ _ _ _ _ _ ha ha hia hia exa exa (by rw [hlo, c1]; rfl) (by rw [hhi, c3]; rfl) okx.1 okx.2
              · rw [c3] at c4
                cases c4
            · repeat (first | refine gi_con ?_ | refine gi_bip (Nat.le_of_ble_eq_true rfl) ?_ | refine gi_sip (Nat.le_of_ble_eq_true rfl) ?_ | refine gi_ldc ?_ | refine gi_add ?_ | refine gi_inc rfl ?_ | refine gi_sub (by omega) ?_ | refine gi_mul ?_ | refine go_nx rfl ?_)
              refine go_jp rfl ?_
              repeat (first | refine gi_con ?_ | refine gi_bip (Nat.le_of_ble_eq_true rfl) ?_ | refine gi_sip (Nat.le_of_ble_eq_true rfl) ?_ | refine gi_ldc ?_ | refine gi_add ?_ | refine gi_inc rfl ?_ | refine gi_sub (by omega) ?_ | refine gi_mul ?_ | refine go_nx rfl ?_)
              first | refine gt_eq (fun c4 => ?_) (fun c4 => ?_) | refine gt_ne (fun c4 => ?_) (fun c4 => ?_)
              · rw [c3] at c4
                cases c4
              · repeat (first | refine gi_con ?_ | refine gi_bip (Nat.le_of_ble_eq_true rfl) ?_ | refine gi_sip (Nat.le_of_ble_eq_true rfl) ?_ | refine gi_ldc ?_ | refine gi_add ?_ | refine gi_inc rfl ?_ | refine gi_sub (by omega) ?_ | refine gi_mul ?_ | refine go_nx rfl ?_)
                refine go_jp rfl ?_
                exact sixteen a i t j 0 0 0 0 x y _ _ _ _ _ _ ha ht hia hjt exa eyt (by rw [hlo, c1]; rfl) (by rw [hhi, c3]; rfl) okx.1 oky.2
          · rw [c1] at c2
            cases c2
        · repeat (first | refine gi_con ?_ | refine gi_bip (Nat.le_of_ble_eq_true rfl) ?_ | refine gi_sip (Nat.le_of_ble_eq_true rfl) ?_ | refine gi_ldc ?_ | refine gi_add ?_ | refine gi_inc rfl ?_ | refine gi_sub (by omega) ?_ | refine gi_mul ?_ | refine go_nx rfl ?_)
          refine go_jp rfl ?_
          repeat (first | refine gi_con ?_ | refine gi_bip (Nat.le_of_ble_eq_true rfl) ?_ | refine gi_sip (Nat.le_of_ble_eq_true rfl) ?_ | refine gi_ldc ?_ | refine gi_add ?_ | refine gi_inc rfl ?_ | refine gi_sub (by omega) ?_ | refine gi_mul ?_ | refine go_nx rfl ?_)
          first | refine gt_eq (fun c2 => ?_) (fun c2 => ?_) | refine gt_ne (fun c2 => ?_) (fun c2 => ?_)
          · rw [c1] at c2
            cases c2
          · repeat (first | refine gi_con ?_ | refine gi_bip (Nat.le_of_ble_eq_true rfl) ?_ | refine gi_sip (Nat.le_of_ble_eq_true rfl) ?_ | refine gi_ldc ?_ | refine gi_add ?_ | refine gi_inc rfl ?_ | refine gi_sub (by omega) ?_ | refine gi_mul ?_ | refine go_nx rfl ?_)
            refine go_jp rfl ?_
            repeat (first | refine gi_con ?_ | refine gi_bip (Nat.le_of_ble_eq_true rfl) ?_ | refine gi_sip (Nat.le_of_ble_eq_true rfl) ?_ | refine gi_ldc ?_ | refine gi_add ?_ | refine gi_inc rfl ?_ | refine gi_sub (by omega) ?_ | refine gi_mul ?_ | refine go_nx rfl ?_)
            first | refine gt_eq (fun c3 => ?_) (fun c3 => ?_) | refine gt_ne (fun c3 => ?_) (fun c3 => ?_)
            · repeat (first | refine gi_con ?_ | refine gi_bip (Nat.le_of_ble_eq_true rfl) ?_ | refine gi_sip (Nat.le_of_ble_eq_true rfl) ?_ | refine gi_ldc ?_ | refine gi_add ?_ | refine gi_inc rfl ?_ | refine gi_sub (by omega) ?_ | refine gi_mul ?_ | refine go_nx rfl ?_)
              refine go_jp rfl ?_
              repeat (first | refine gi_con ?_ | refine gi_bip (Nat.le_of_ble_eq_true rfl) ?_ | refine gi_sip (Nat.le_of_ble_eq_true rfl) ?_ | refine gi_ldc ?_ | refine gi_add ?_ | refine gi_inc rfl ?_ | refine gi_sub (by omega) ?_ | refine gi_mul ?_ | refine go_nx rfl ?_)
              first | refine gt_eq (fun c4 => ?_) (fun c4 => ?_) | refine gt_ne (fun c4 => ?_) (fun c4 => ?_)
              · repeat (first | refine gi_con ?_ | refine gi_bip (Nat.le_of_ble_eq_true rfl) ?_ | refine gi_sip (Nat.le_of_ble_eq_true rfl) ?_ | refine gi_ldc ?_ | refine gi_add ?_ | refine gi_inc rfl ?_ | refine gi_sub (by omega) ?_ | refine gi_mul ?_ | refine go_nx rfl ?_)
                refine go_jp rfl ?_
                exact sixteen t j a i 0 0 0 0 y x _ _ _ _ _ _ ht ha hjt hia eyt exa (by rw [hlo, c1]; rfl) (by rw [hhi, c3]; rfl) oky.1 okx.2
              · rw [c3] at c4
                cases c4
            · repeat (first | refine gi_con ?_ | refine gi_bip (Nat.le_of_ble_eq_true rfl) ?_ | refine gi_sip (Nat.le_of_ble_eq_true rfl) ?_ | refine gi_ldc ?_ | refine gi_add ?_ | refine gi_inc rfl ?_ | refine gi_sub (by omega) ?_ | refine gi_mul ?_ | refine go_nx rfl ?_)
              refine go_jp rfl ?_
              repeat (first | refine gi_con ?_ | refine gi_bip (Nat.le_of_ble_eq_true rfl) ?_ | refine gi_sip (Nat.le_of_ble_eq_true rfl) ?_ | refine gi_ldc ?_ | refine gi_add ?_ | refine gi_inc rfl ?_ | refine gi_sub (by omega) ?_ | refine gi_mul ?_ | refine go_nx rfl ?_)
              first | refine gt_eq (fun c4 => ?_) (fun c4 => ?_) | refine gt_ne (fun c4 => ?_) (fun c4 => ?_)
              · rw [c3] at c4
                cases c4
              · repeat (first | refine gi_con ?_ | refine gi_bip (Nat.le_of_ble_eq_true rfl) ?_ | refine gi_sip (Nat.le_of_ble_eq_true rfl) ?_ | refine gi_ldc ?_ | refine gi_add ?_ | refine gi_inc rfl ?_ | refine gi_sub (by omega) ?_ | refine gi_mul ?_ | refine go_nx rfl ?_)
                refine go_jp rfl ?_
                exact sixteen t j t j 0 0 0 0 y y _ _ _ _ _ _ ht ht hjt hjt eyt eyt (by rw [hlo, c1]; rfl) (by rw [hhi, c3]; rfl) oky.1 oky.2
      have six : q_highB (q_ord B B 17) x.2 y.2 = true → ∀ (x6 x7 : Int32) (x9 x10 x11 x12 x13 x14 : Value), mm_Go E d 159 (mm_blk 159 6) [.ref o, .int (nI a), .int (nI t), .int (nI c), .int (nI i), .int (nI j), .int x6, .int x7, .int (q_t (q_lowB (q_ord B B 17) x.1 y.1)), x9, x10, x11, x12, x13, x14] [] (mH h o ad I C1) Q := by
        intro e x6 x7 x9 x10 x11 x12 x13 x14
        have := eight x6 x7 x9 x10 x11 x12 x13 x14
        rw [e] at this
        repeat (first | refine gi_con ?_ | refine gi_bip (Nat.le_of_ble_eq_true rfl) ?_ | refine gi_sip (Nat.le_of_ble_eq_true rfl) ?_ | refine gi_ldc ?_ | refine gi_add ?_ | refine gi_inc rfl ?_ | refine gi_sub (by omega) ?_ | refine gi_mul ?_ | refine go_nx rfl ?_)
        refine go_jp rfl ?_
        exact this
      have seven : q_highB (q_ord B B 17) x.2 y.2 = false → ∀ (x6 x7 : Int32) (x9 x10 x11 x12 x13 x14 : Value), mm_Go E d 159 (mm_blk 159 7) [.ref o, .int (nI a), .int (nI t), .int (nI c), .int (nI i), .int (nI j), .int x6, .int x7, .int (q_t (q_lowB (q_ord B B 17) x.1 y.1)), x9, x10, x11, x12, x13, x14] [] (mH h o ad I C1) Q := by
        intro e x6 x7 x9 x10 x11 x12 x13 x14
        have := eight x6 x7 x9 x10 x11 x12 x13 x14
        rw [e] at this
        repeat (first | refine gi_con ?_ | refine gi_bip (Nat.le_of_ble_eq_true rfl) ?_ | refine gi_sip (Nat.le_of_ble_eq_true rfl) ?_ | refine gi_ldc ?_ | refine gi_add ?_ | refine gi_inc rfl ?_ | refine gi_sub (by omega) ?_ | refine gi_mul ?_ | refine go_nx rfl ?_)
        refine go_jp rfl ?_
        exact this
      have five : ∀ (x6 : Int32) (x8 x9 x10 x11 x12 x13 x14 : Value), mm_Go E d 159 (mm_blk 159 5) [.ref o, .int (nI a), .int (nI t), .int (nI c), .int (nI i), .int (nI j), .int x6, .int (q_std (q_ord B B 17) x.2 y.2), x8, x9, x10, x11, x12, x13, x14] [.int (q_t (q_lowB (q_ord B B 17) x.1 y.1))] (mH h o ad I C1) Q := by
        intro x6 x8 x9 x10 x11 x12 x13 x14
        unfold q_highB at six seven
        repeat (first | refine gi_con ?_ | refine gi_bip (Nat.le_of_ble_eq_true rfl) ?_ | refine gi_sip (Nat.le_of_ble_eq_true rfl) ?_ | refine gi_ldc ?_ | refine gi_add ?_ | refine gi_inc rfl ?_ | refine gi_sub (by omega) ?_ | refine gi_mul ?_ | refine go_nx rfl ?_)
        refine gx_gt (fun c1 => ?_) (fun c1 => ?_)
        · exact six (by rw [decide_eq_true c1]; rfl) _ _ _ _ _ _ _ _
        rw [decide_eq_false c1, Bool.false_or] at six seven
        repeat (first | refine gi_con ?_ | refine gi_bip (Nat.le_of_ble_eq_true rfl) ?_ | refine gi_sip (Nat.le_of_ble_eq_true rfl) ?_ | refine gi_ldc ?_ | refine gi_add ?_ | refine gi_inc rfl ?_ | refine gi_sub (by omega) ?_ | refine gi_mul ?_ | refine go_nx rfl ?_)
        refine gx_ne (fun c2 => ?_) (fun c2 => ?_)
        · exact seven (by rw [decide_eq_false c2]; rfl) _ _ _ _ _ _ _ _
        rw [decide_eq_true c2, Bool.true_and] at six seven
        repeat (first | refine gi_con ?_ | refine gi_bip (Nat.le_of_ble_eq_true rfl) ?_ | refine gi_sip (Nat.le_of_ble_eq_true rfl) ?_ | refine gi_ldc ?_ | refine gi_add ?_ | refine gi_inc rfl ?_ | refine gi_sub (by omega) ?_ | refine gi_mul ?_ | refine go_nx rfl ?_)
        refine go_step ?_
        refine g_callV (by decide) (by decide) (Nat.le_of_ble_eq_true rfl) (Nat.le_of_ble_eq_true rfl) mH_rcv (by omega) (Nat.le_of_ble_eq_true rfl) rfl ?_
        refine sp_mfh 6 hD hS1 ha hia exa (by omega) ?_
        rw [show q_ef x.2 (6 - 4) = nI x.2.2.2.1 from rfl]
        repeat (first | refine gi_con ?_ | refine gi_bip (Nat.le_of_ble_eq_true rfl) ?_ | refine gi_sip (Nat.le_of_ble_eq_true rfl) ?_ | refine gi_ldc ?_ | refine gi_add ?_ | refine gi_inc rfl ?_ | refine gi_sub (by omega) ?_ | refine gi_mul ?_ | refine go_nx rfl ?_)
        refine go_step ?_
        refine g_callV (by decide) (by decide) (Nat.le_of_ble_eq_true rfl) (Nat.le_of_ble_eq_true rfl) mH_rcv (by omega) (Nat.le_of_ble_eq_true rfl) rfl ?_
        refine sp_mfh 6 hD hS1 ht hjt eyt (by omega) ?_
        rw [show q_ef y.2 (6 - 4) = nI y.2.2.2.1 from rfl]
        repeat (first | refine gi_con ?_ | refine gi_bip (Nat.le_of_ble_eq_true rfl) ?_ | refine gi_sip (Nat.le_of_ble_eq_true rfl) ?_ | refine gi_ldc ?_ | refine gi_add ?_ | refine gi_inc rfl ?_ | refine gi_sub (by omega) ?_ | refine gi_mul ?_ | refine go_nx rfl ?_)
        first | refine gb_lt (by omega) (by omega) (fun c3 => ?_) (fun c3 => ?_) | refine gb_ge (by omega) (by omega) (fun c3 => ?_) (fun c3 => ?_) | refine gb_gt (by omega) (by omega) (fun c3 => ?_) (fun c3 => ?_) | refine gb_le (by omega) (by omega) (fun c3 => ?_) (fun c3 => ?_) | refine gb_eq (by omega) (by omega) (fun c3 => ?_) (fun c3 => ?_) | refine gb_ne (by omega) (by omega) (fun c3 => ?_) (fun c3 => ?_)
        · exact seven (by rw [decide_eq_false (by omega)]) _ _ _ _ _ _ _ _
        · refine go_jp rfl ?_
          exact six (by rw [decide_eq_true (by omega)]) _ _ _ _ _ _ _ _
      have three : q_lowB (q_ord B B 17) x.1 y.1 = true → ∀ (x6 : Int32) (x8 x9 x10 x11 x12 x13 x14 : Value), mm_Go E d 159 (mm_blk 159 3) [.ref o, .int (nI a), .int (nI t), .int (nI c), .int (nI i), .int (nI j), .int x6, .int (q_std (q_ord B B 17) x.2 y.2), x8, x9, x10, x11, x12, x13, x14] [] (mH h o ad I C1) Q := by
        intro e x6 x8 x9 x10 x11 x12 x13 x14
        have := five x6 x8 x9 x10 x11 x12 x13 x14
        rw [e] at this
        repeat (first | refine gi_con ?_ | refine gi_bip (Nat.le_of_ble_eq_true rfl) ?_ | refine gi_sip (Nat.le_of_ble_eq_true rfl) ?_ | refine gi_ldc ?_ | refine gi_add ?_ | refine gi_inc rfl ?_ | refine gi_sub (by omega) ?_ | refine gi_mul ?_ | refine go_nx rfl ?_)
        refine go_jp rfl ?_
        exact this
      have four : q_lowB (q_ord B B 17) x.1 y.1 = false → ∀ (x6 : Int32) (x8 x9 x10 x11 x12 x13 x14 : Value), mm_Go E d 159 (mm_blk 159 4) [.ref o, .int (nI a), .int (nI t), .int (nI c), .int (nI i), .int (nI j), .int x6, .int (q_std (q_ord B B 17) x.2 y.2), x8, x9, x10, x11, x12, x13, x14] [] (mH h o ad I C1) Q := by
        intro e x6 x8 x9 x10 x11 x12 x13 x14
        have := five x6 x8 x9 x10 x11 x12 x13 x14
        rw [e] at this
        repeat (first | refine gi_con ?_ | refine gi_bip (Nat.le_of_ble_eq_true rfl) ?_ | refine gi_sip (Nat.le_of_ble_eq_true rfl) ?_ | refine gi_ldc ?_ | refine gi_add ?_ | refine gi_inc rfl ?_ | refine gi_sub (by omega) ?_ | refine gi_mul ?_ | refine go_nx rfl ?_)
        refine go_jp rfl ?_
        exact this
      repeat (first | refine gi_con ?_ | refine gi_bip (Nat.le_of_ble_eq_true rfl) ?_ | refine gi_sip (Nat.le_of_ble_eq_true rfl) ?_ | refine gi_ldc ?_ | refine gi_add ?_ | refine gi_inc rfl ?_ | refine gi_sub (by omega) ?_ | refine gi_mul ?_ | refine go_nx rfl ?_)
      refine gm_get (.ref (ad 14)) rfl rfl ?_
      repeat (first | refine gi_con ?_ | refine gi_bip (Nat.le_of_ble_eq_true rfl) ?_ | refine gi_sip (Nat.le_of_ble_eq_true rfl) ?_ | refine gi_ldc ?_ | refine gi_add ?_ | refine gi_inc rfl ?_ | refine gi_sub (by omega) ?_ | refine gi_mul ?_ | refine go_nx rfl ?_)
      refine gm_ild hD (by decide) rfl (show t < 3 from ht) (by decide) ?_
      rw [(hS1 t ht).2.1, hS1t]
      repeat (first | refine gi_con ?_ | refine gi_bip (Nat.le_of_ble_eq_true rfl) ?_ | refine gi_sip (Nat.le_of_ble_eq_true rfl) ?_ | refine gi_ldc ?_ | refine gi_add ?_ | refine gi_inc rfl ?_ | refine gi_sub (by omega) ?_ | refine gi_mul ?_ | refine go_nx rfl ?_)
      first | refine gb_lt (by omega) (by omega) (fun c1 => ?_) (fun c1 => ?_) | refine gb_ge (by omega) (by omega) (fun c1 => ?_) (fun c1 => ?_) | refine gb_gt (by omega) (by omega) (fun c1 => ?_) (fun c1 => ?_) | refine gb_le (by omega) (by omega) (fun c1 => ?_) (fun c1 => ?_) | refine gb_eq (by omega) (by omega) (fun c1 => ?_) (fun c1 => ?_) | refine gb_ne (by omega) (by omega) (fun c1 => ?_) (fun c1 => ?_)
      · omega
      repeat (first | refine gi_con ?_ | refine gi_bip (Nat.le_of_ble_eq_true rfl) ?_ | refine gi_sip (Nat.le_of_ble_eq_true rfl) ?_ | refine gi_ldc ?_ | refine gi_add ?_ | refine gi_inc rfl ?_ | refine gi_sub (by omega) ?_ | refine gi_mul ?_ | refine go_nx rfl ?_)
      refine go_step ?_
      refine g_callV (by decide) (by decide) (Nat.le_of_ble_eq_true rfl) (Nat.le_of_ble_eq_true rfl) mH_rcv (by omega) (Nat.le_of_ble_eq_true rfl) rfl ?_
      refine sp_mfl 0 hD hS1 ha hia exa (by omega) ?_
      repeat (first | refine gi_con ?_ | refine gi_bip (Nat.le_of_ble_eq_true rfl) ?_ | refine gi_sip (Nat.le_of_ble_eq_true rfl) ?_ | refine gi_ldc ?_ | refine gi_add ?_ | refine gi_inc rfl ?_ | refine gi_sub (by omega) ?_ | refine gi_mul ?_ | refine go_nx rfl ?_)
      refine go_step ?_
      refine g_callV (by decide) (by decide) (Nat.le_of_ble_eq_true rfl) (Nat.le_of_ble_eq_true rfl) mH_rcv (by omega) (Nat.le_of_ble_eq_true rfl) rfl ?_
      refine sp_mfl 1 hD hS1 ha hia exa (by omega) ?_
      repeat (first | refine gi_con ?_ | refine gi_bip (Nat.le_of_ble_eq_true rfl) ?_ | refine gi_sip (Nat.le_of_ble_eq_true rfl) ?_ | refine gi_ldc ?_ | refine gi_add ?_ | refine gi_inc rfl ?_ | refine gi_sub (by omega) ?_ | refine gi_mul ?_ | refine go_nx rfl ?_)
      refine go_step ?_
      refine g_callV (by decide) (by decide) (Nat.le_of_ble_eq_true rfl) (Nat.le_of_ble_eq_true rfl) mH_rcv (by omega) (Nat.le_of_ble_eq_true rfl) rfl ?_
      refine sp_mfl 3 hD hS1 ha hia exa (by omega) ?_
      repeat (first | refine gi_con ?_ | refine gi_bip (Nat.le_of_ble_eq_true rfl) ?_ | refine gi_sip (Nat.le_of_ble_eq_true rfl) ?_ | refine gi_ldc ?_ | refine gi_add ?_ | refine gi_inc rfl ?_ | refine gi_sub (by omega) ?_ | refine gi_mul ?_ | refine go_nx rfl ?_)
      refine go_step ?_
      refine g_callV (by decide) (by decide) (Nat.le_of_ble_eq_true rfl) (Nat.le_of_ble_eq_true rfl) mH_rcv (by omega) (Nat.le_of_ble_eq_true rfl) rfl ?_
      refine sp_mfl 0 hD hS1 ht hjt eyt (by omega) ?_
      repeat (first | refine gi_con ?_ | refine gi_bip (Nat.le_of_ble_eq_true rfl) ?_ | refine gi_sip (Nat.le_of_ble_eq_true rfl) ?_ | refine gi_ldc ?_ | refine gi_add ?_ | refine gi_inc rfl ?_ | refine gi_sub (by omega) ?_ | refine gi_mul ?_ | refine go_nx rfl ?_)
      refine go_step ?_
      refine g_callV (by decide) (by decide) (Nat.le_of_ble_eq_true rfl) (Nat.le_of_ble_eq_true rfl) mH_rcv (by omega) (Nat.le_of_ble_eq_true rfl) rfl ?_
      refine sp_mfl 1 hD hS1 ht hjt eyt (by omega) ?_
      repeat (first | refine gi_con ?_ | refine gi_bip (Nat.le_of_ble_eq_true rfl) ?_ | refine gi_sip (Nat.le_of_ble_eq_true rfl) ?_ | refine gi_ldc ?_ | refine gi_add ?_ | refine gi_inc rfl ?_ | refine gi_sub (by omega) ?_ | refine gi_mul ?_ | refine go_nx rfl ?_)
      refine go_step ?_
      refine g_callV (by decide) (by decide) (Nat.le_of_ble_eq_true rfl) (Nat.le_of_ble_eq_true rfl) mH_rcv (by omega) (Nat.le_of_ble_eq_true rfl) rfl ?_
      refine sp_mfl 3 hD hS1 ht hjt eyt (by omega) ?_
      repeat (first | refine gi_con ?_ | refine gi_bip (Nat.le_of_ble_eq_true rfl) ?_ | refine gi_sip (Nat.le_of_ble_eq_true rfl) ?_ | refine gi_ldc ?_ | refine gi_add ?_ | refine gi_inc rfl ?_ | refine gi_sub (by omega) ?_ | refine gi_mul ?_ | refine go_nx rfl ?_)
      refine go_step ?_
      refine g_callV (by decide) (by decide) (Nat.le_of_ble_eq_true rfl) (Nat.le_of_ble_eq_true rfl) mH_rcv (by omega) (Nat.le_of_ble_eq_true rfl) rfl ?_
      refine sp_mstd (by omega) (hm _ _ hF1) hw okx.1 oky.1 ?_
      repeat (first | refine gi_con ?_ | refine gi_bip (Nat.le_of_ble_eq_true rfl) ?_ | refine gi_sip (Nat.le_of_ble_eq_true rfl) ?_ | refine gi_ldc ?_ | refine gi_add ?_ | refine gi_inc rfl ?_ | refine gi_sub (by omega) ?_ | refine gi_mul ?_ | refine go_nx rfl ?_)
      refine go_step ?_
      refine g_callV (by decide) (by decide) (Nat.le_of_ble_eq_true rfl) (Nat.le_of_ble_eq_true rfl) mH_rcv (by omega) (Nat.le_of_ble_eq_true rfl) rfl ?_
      refine sp_mfh 4 hD hS1 ha hia exa (by omega) ?_
      repeat (first | refine gi_con ?_ | refine gi_bip (Nat.le_of_ble_eq_true rfl) ?_ | refine gi_sip (Nat.le_of_ble_eq_true rfl) ?_ | refine gi_ldc ?_ | refine gi_add ?_ | refine gi_inc rfl ?_ | refine gi_sub (by omega) ?_ | refine gi_mul ?_ | refine go_nx rfl ?_)
      refine go_step ?_
      refine g_callV (by decide) (by decide) (Nat.le_of_ble_eq_true rfl) (Nat.le_of_ble_eq_true rfl) mH_rcv (by omega) (Nat.le_of_ble_eq_true rfl) rfl ?_
      refine sp_mfh 5 hD hS1 ha hia exa (by omega) ?_
      repeat (first | refine gi_con ?_ | refine gi_bip (Nat.le_of_ble_eq_true rfl) ?_ | refine gi_sip (Nat.le_of_ble_eq_true rfl) ?_ | refine gi_ldc ?_ | refine gi_add ?_ | refine gi_inc rfl ?_ | refine gi_sub (by omega) ?_ | refine gi_mul ?_ | refine go_nx rfl ?_)
      refine go_step ?_
      refine g_callV (by decide) (by decide) (Nat.le_of_ble_eq_true rfl) (Nat.le_of_ble_eq_true rfl) mH_rcv (by omega) (Nat.le_of_ble_eq_true rfl) rfl ?_
      refine sp_mfh 7 hD hS1 ha hia exa (by omega) ?_
      repeat (first | refine gi_con ?_ | refine gi_bip (Nat.le_of_ble_eq_true rfl) ?_ | refine gi_sip (Nat.le_of_ble_eq_true rfl) ?_ | refine gi_ldc ?_ | refine gi_add ?_ | refine gi_inc rfl ?_ | refine gi_sub (by omega) ?_ | refine gi_mul ?_ | refine go_nx rfl ?_)
      refine go_step ?_
      refine g_callV (by decide) (by decide) (Nat.le_of_ble_eq_true rfl) (Nat.le_of_ble_eq_true rfl) mH_rcv (by omega) (Nat.le_of_ble_eq_true rfl) rfl ?_
      refine sp_mfh 4 hD hS1 ht hjt eyt (by omega) ?_
      repeat (first | refine gi_con ?_ | refine gi_bip (Nat.le_of_ble_eq_true rfl) ?_ | refine gi_sip (Nat.le_of_ble_eq_true rfl) ?_ | refine gi_ldc ?_ | refine gi_add ?_ | refine gi_inc rfl ?_ | refine gi_sub (by omega) ?_ | refine gi_mul ?_ | refine go_nx rfl ?_)
      refine go_step ?_
      refine g_callV (by decide) (by decide) (Nat.le_of_ble_eq_true rfl) (Nat.le_of_ble_eq_true rfl) mH_rcv (by omega) (Nat.le_of_ble_eq_true rfl) rfl ?_
      refine sp_mfh 5 hD hS1 ht hjt eyt (by omega) ?_
      repeat (first | refine gi_con ?_ | refine gi_bip (Nat.le_of_ble_eq_true rfl) ?_ | refine gi_sip (Nat.le_of_ble_eq_true rfl) ?_ | refine gi_ldc ?_ | refine gi_add ?_ | refine gi_inc rfl ?_ | refine gi_sub (by omega) ?_ | refine gi_mul ?_ | refine go_nx rfl ?_)
      refine go_step ?_
      refine g_callV (by decide) (by decide) (Nat.le_of_ble_eq_true rfl) (Nat.le_of_ble_eq_true rfl) mH_rcv (by omega) (Nat.le_of_ble_eq_true rfl) rfl ?_
      refine sp_mfh 7 hD hS1 ht hjt eyt (by omega) ?_
      repeat (first | refine gi_con ?_ | refine gi_bip (Nat.le_of_ble_eq_true rfl) ?_ | refine gi_sip (Nat.le_of_ble_eq_true rfl) ?_ | refine gi_ldc ?_ | refine gi_add ?_ | refine gi_inc rfl ?_ | refine gi_sub (by omega) ?_ | refine gi_mul ?_ | refine go_nx rfl ?_)
      refine go_step ?_
      refine g_callV (by decide) (by decide) (Nat.le_of_ble_eq_true rfl) (Nat.le_of_ble_eq_true rfl) mH_rcv (by omega) (Nat.le_of_ble_eq_true rfl) rfl ?_
      refine sp_mstd (by omega) (hm _ _ hF1) hw okx.2 oky.2 ?_
      unfold q_lowB at three four
      repeat (first | refine gi_con ?_ | refine gi_bip (Nat.le_of_ble_eq_true rfl) ?_ | refine gi_sip (Nat.le_of_ble_eq_true rfl) ?_ | refine gi_ldc ?_ | refine gi_add ?_ | refine gi_inc rfl ?_ | refine gi_sub (by omega) ?_ | refine gi_mul ?_ | refine go_nx rfl ?_)
      refine gx_lt (fun c2 => ?_) (fun c2 => ?_)
      · exact three (by rw [decide_eq_true c2]; rfl) _ _ _ _ _ _ _ _
      rw [decide_eq_false c2, Bool.false_or] at three four
      repeat (first | refine gi_con ?_ | refine gi_bip (Nat.le_of_ble_eq_true rfl) ?_ | refine gi_sip (Nat.le_of_ble_eq_true rfl) ?_ | refine gi_ldc ?_ | refine gi_add ?_ | refine gi_inc rfl ?_ | refine gi_sub (by omega) ?_ | refine gi_mul ?_ | refine go_nx rfl ?_)
      refine gx_ne (fun c3 => ?_) (fun c3 => ?_)
      · exact four (by rw [decide_eq_false c3]; rfl) _ _ _ _ _ _ _ _
      rw [decide_eq_true c3, Bool.true_and] at three four
      repeat (first | refine gi_con ?_ | refine gi_bip (Nat.le_of_ble_eq_true rfl) ?_ | refine gi_sip (Nat.le_of_ble_eq_true rfl) ?_ | refine gi_ldc ?_ | refine gi_add ?_ | refine gi_inc rfl ?_ | refine gi_sub (by omega) ?_ | refine gi_mul ?_ | refine go_nx rfl ?_)
      refine go_step ?_
      refine g_callV (by decide) (by decide) (Nat.le_of_ble_eq_true rfl) (Nat.le_of_ble_eq_true rfl) mH_rcv (by omega) (Nat.le_of_ble_eq_true rfl) rfl ?_
      refine sp_mfl 2 hD hS1 ha hia exa (by omega) ?_
      rw [show q_ef x.1 2 = nI x.1.2.2.1 from rfl]
      repeat (first | refine gi_con ?_ | refine gi_bip (Nat.le_of_ble_eq_true rfl) ?_ | refine gi_sip (Nat.le_of_ble_eq_true rfl) ?_ | refine gi_ldc ?_ | refine gi_add ?_ | refine gi_inc rfl ?_ | refine gi_sub (by omega) ?_ | refine gi_mul ?_ | refine go_nx rfl ?_)
      refine go_step ?_
      refine g_callV (by decide) (by decide) (Nat.le_of_ble_eq_true rfl) (Nat.le_of_ble_eq_true rfl) mH_rcv (by omega) (Nat.le_of_ble_eq_true rfl) rfl ?_
      refine sp_mfl 2 hD hS1 ht hjt eyt (by omega) ?_
      rw [show q_ef y.1 2 = nI y.1.2.2.1 from rfl]
      repeat (first | refine gi_con ?_ | refine gi_bip (Nat.le_of_ble_eq_true rfl) ?_ | refine gi_sip (Nat.le_of_ble_eq_true rfl) ?_ | refine gi_ldc ?_ | refine gi_add ?_ | refine gi_inc rfl ?_ | refine gi_sub (by omega) ?_ | refine gi_mul ?_ | refine go_nx rfl ?_)
      first | refine gb_lt (by omega) (by omega) (fun c4 => ?_) (fun c4 => ?_) | refine gb_ge (by omega) (by omega) (fun c4 => ?_) (fun c4 => ?_) | refine gb_gt (by omega) (by omega) (fun c4 => ?_) (fun c4 => ?_) | refine gb_le (by omega) (by omega) (fun c4 => ?_) (fun c4 => ?_) | refine gb_eq (by omega) (by omega) (fun c4 => ?_) (fun c4 => ?_) | refine gb_ne (by omega) (by omega) (fun c4 => ?_) (fun c4 => ?_)
      · exact four (by rw [decide_eq_false (by omega)]) _ _ _ _ _ _ _ _
      · refine go_jp rfl ?_
        exact three (by rw [decide_eq_true (by omega)]) _ _ _ _ _ _ _ _
  have outer : ∀ (k i : Nat) (acc : List qR) (C1 : Nat → Nat → Int32) (x5 x6 x7 x8 x9 x10 x11 x12 x13 x14 : Value), k + i = (S a).length → mS3 C1 (uf S c acc) → mFr C C1 → acc ++ q_meet (q_ord B B 17) ((S a).drop i) (S t) = q_meet (q_ord B B 17) (S a) (S t) → mm_Go E d 159 (mm_blk 159 1) [.ref o, .int (nI a), .int (nI t), .int (nI c), .int (nI i), x5, x6, x7, x8, x9, x10, x11, x12, x13, x14] [] (mH h o ad I C1) Q := by
    intro k
    induction k with
    | zero =>
      intro i acc C1 x5 x6 x7 x8 x9 x10 x11 x12 x13 x14 hk hS1 hF1 hacc
      have e : q_meet (q_ord B B 17) ((S a).drop i) (S t) = [] := by rw [List.drop_of_length_le (by omega)]; rfl
      rw [e, List.append_nil] at hacc
      repeat (first | refine gi_con ?_ | refine gi_bip (Nat.le_of_ble_eq_true rfl) ?_ | refine gi_sip (Nat.le_of_ble_eq_true rfl) ?_ | refine gi_ldc ?_ | refine gi_add ?_ | refine gi_inc rfl ?_ | refine gi_sub (by omega) ?_ | refine gi_mul ?_ | refine go_nx rfl ?_)
      refine gm_get (.ref (ad 14)) rfl rfl ?_
      repeat (first | refine gi_con ?_ | refine gi_bip (Nat.le_of_ble_eq_true rfl) ?_ | refine gi_sip (Nat.le_of_ble_eq_true rfl) ?_ | refine gi_ldc ?_ | refine gi_add ?_ | refine gi_inc rfl ?_ | refine gi_sub (by omega) ?_ | refine gi_mul ?_ | refine go_nx rfl ?_)
      refine gm_ild hD (by decide) rfl (show a < 3 from ha) (by decide) ?_
      rw [(hS1 a ha).2.1, uf_ne hac]
      repeat (first | refine gi_con ?_ | refine gi_bip (Nat.le_of_ble_eq_true rfl) ?_ | refine gi_sip (Nat.le_of_ble_eq_true rfl) ?_ | refine gi_ldc ?_ | refine gi_add ?_ | refine gi_inc rfl ?_ | refine gi_sub (by omega) ?_ | refine gi_mul ?_ | refine go_nx rfl ?_)
      first | refine gb_lt (by omega) (by omega) (fun c1 => ?_) (fun c1 => ?_) | refine gb_ge (by omega) (by omega) (fun c1 => ?_) (fun c1 => ?_) | refine gb_gt (by omega) (by omega) (fun c1 => ?_) (fun c1 => ?_) | refine gb_le (by omega) (by omega) (fun c1 => ?_) (fun c1 => ?_) | refine gb_eq (by omega) (by omega) (fun c1 => ?_) (fun c1 => ?_) | refine gb_ne (by omega) (by omega) (fun c1 => ?_) (fun c1 => ?_)
      · repeat (first | refine gi_con ?_ | refine gi_bip (Nat.le_of_ble_eq_true rfl) ?_ | refine gi_sip (Nat.le_of_ble_eq_true rfl) ?_ | refine gi_ldc ?_ | refine gi_add ?_ | refine gi_inc rfl ?_ | refine gi_sub (by omega) ?_ | refine gi_mul ?_ | refine go_nx rfl ?_)
        refine go_step ?_
        refine g_callV (by decide) (by decide) (Nat.le_of_ble_eq_true rfl) (Nat.le_of_ble_eq_true rfl) mH_rcv (by omega) (Nat.le_of_ble_eq_true rfl) rfl ?_
        refine sp_mcopy hD hS1 hc ha (Ne.symm hac) (fun C2 hS2 hF2 => ?_)
        repeat (first | refine gi_con ?_ | refine gi_bip (Nat.le_of_ble_eq_true rfl) ?_ | refine gi_sip (Nat.le_of_ble_eq_true rfl) ?_ | refine gi_ldc ?_ | refine gi_add ?_ | refine gi_inc rfl ?_ | refine gi_sub (by omega) ?_ | refine gi_mul ?_ | refine go_nx rfl ?_)
        refine go_rt rfl ?_
        rw [uf_at, hacc] at hS2
        exact hq C2 hS2 (mFr_t hF1 hF2)
      · omega
    | succ k ih =>
      intro i acc C1 x5 x6 x7 x8 x9 x10 x11 x12 x13 x14 hk hS1 hF1 hacc
      have hi : i < (S a).length := by omega
      have edrop : (S a).drop i = (S a).getD i q_r0 :: (S a).drop (i + 1) := by
        rw [List.drop_eq_getElem_cons hi, List.getD_eq_getElem?_getD, List.getElem?_eq_getElem hi]
        rfl
      have e : q_meet (q_ord B B 17) ((S a).drop i) (S t) = (S t).filterMap (fun y => q_met (q_ord B B 17) ((S a).getD i q_r0) y) ++ q_meet (q_ord B B 17) ((S a).drop (i + 1)) (S t) := by
        rw [edrop]
        rfl
      rw [e, ← List.append_assoc] at hacc
      repeat (first | refine gi_con ?_ | refine gi_bip (Nat.le_of_ble_eq_true rfl) ?_ | refine gi_sip (Nat.le_of_ble_eq_true rfl) ?_ | refine gi_ldc ?_ | refine gi_add ?_ | refine gi_inc rfl ?_ | refine gi_sub (by omega) ?_ | refine gi_mul ?_ | refine go_nx rfl ?_)
      refine gm_get (.ref (ad 14)) rfl rfl ?_
      repeat (first | refine gi_con ?_ | refine gi_bip (Nat.le_of_ble_eq_true rfl) ?_ | refine gi_sip (Nat.le_of_ble_eq_true rfl) ?_ | refine gi_ldc ?_ | refine gi_add ?_ | refine gi_inc rfl ?_ | refine gi_sub (by omega) ?_ | refine gi_mul ?_ | refine go_nx rfl ?_)
      refine gm_ild hD (by decide) rfl (show a < 3 from ha) (by decide) ?_
      rw [(hS1 a ha).2.1, uf_ne hac]
      repeat (first | refine gi_con ?_ | refine gi_bip (Nat.le_of_ble_eq_true rfl) ?_ | refine gi_sip (Nat.le_of_ble_eq_true rfl) ?_ | refine gi_ldc ?_ | refine gi_add ?_ | refine gi_inc rfl ?_ | refine gi_sub (by omega) ?_ | refine gi_mul ?_ | refine go_nx rfl ?_)
      first | refine gb_lt (by omega) (by omega) (fun c1 => ?_) (fun c1 => ?_) | refine gb_ge (by omega) (by omega) (fun c1 => ?_) (fun c1 => ?_) | refine gb_gt (by omega) (by omega) (fun c1 => ?_) (fun c1 => ?_) | refine gb_le (by omega) (by omega) (fun c1 => ?_) (fun c1 => ?_) | refine gb_eq (by omega) (by omega) (fun c1 => ?_) (fun c1 => ?_) | refine gb_ne (by omega) (by omega) (fun c1 => ?_) (fun c1 => ?_)
      · omega
      repeat (first | refine gi_con ?_ | refine gi_bip (Nat.le_of_ble_eq_true rfl) ?_ | refine gi_sip (Nat.le_of_ble_eq_true rfl) ?_ | refine gi_ldc ?_ | refine gi_add ?_ | refine gi_inc rfl ?_ | refine gi_sub (by omega) ?_ | refine gi_mul ?_ | refine go_nx rfl ?_)
      refine go_jp rfl ?_
      refine inner i _ hi rfl (S t).length 0 acc C1 _ _ _ _ _ _ _ _ _ (by omega) hS1 hF1 ?_ (fun C2 x5 x6 x7 x8 x9 x10 x11 x12 x13 x14 hS2 hF2 => ?_)
      · rw [List.drop_zero]
        have := congrArg List.length hacc
        rw [List.length_append] at this
        omega
      · rw [List.drop_zero] at hS2
        repeat (first | refine gi_con ?_ | refine gi_bip (Nat.le_of_ble_eq_true rfl) ?_ | refine gi_sip (Nat.le_of_ble_eq_true rfl) ?_ | refine gi_ldc ?_ | refine gi_add ?_ | refine gi_inc rfl ?_ | refine gi_sub (by omega) ?_ | refine gi_mul ?_ | refine go_nx rfl ?_)
        refine go_jp rfl ?_
        exact ih (i + 1) _ C2 _ _ _ _ _ _ _ _ _ _ (by omega) hS2 hF2 hacc
  repeat (first | refine gi_con ?_ | refine gi_bip (Nat.le_of_ble_eq_true rfl) ?_ | refine gi_sip (Nat.le_of_ble_eq_true rfl) ?_ | refine gi_ldc ?_ | refine gi_add ?_ | refine gi_inc rfl ?_ | refine gi_sub (by omega) ?_ | refine gi_mul ?_ | refine go_nx rfl ?_)
  refine gm_get (.ref (ad 14)) rfl rfl ?_
  repeat (first | refine gi_con ?_ | refine gi_bip (Nat.le_of_ble_eq_true rfl) ?_ | refine gi_sip (Nat.le_of_ble_eq_true rfl) ?_ | refine gi_ldc ?_ | refine gi_add ?_ | refine gi_inc rfl ?_ | refine gi_sub (by omega) ?_ | refine gi_mul ?_ | refine go_nx rfl ?_)
  refine gm_ist hD (by decide) rfl (show c < 3 from hc) (by decide) ?_
  repeat (first | refine gi_con ?_ | refine gi_bip (Nat.le_of_ble_eq_true rfl) ?_ | refine gi_sip (Nat.le_of_ble_eq_true rfl) ?_ | refine gi_ldc ?_ | refine gi_add ?_ | refine gi_inc rfl ?_ | refine gi_sub (by omega) ?_ | refine gi_mul ?_ | refine go_nx rfl ?_)
  refine go_jp rfl ?_
  refine outer (S a).length 0 [] _ _ _ _ _ _ _ _ _ _ _ (by omega) ?_ (mFr_14 (mFr_r C)) (by rw [List.drop_zero, List.nil_append])
  intro r hr
  obtain ⟨a1, a2, a3⟩ := hS r hr
  rw [uf_at, uf_ne (show (15 : Nat) ≠ 14 by decide)]
  by_cases hrc : r = c
  · subst hrc
    rw [uf_at, uf_at]
    exact ⟨by simp, rfl, fun k hk => by simp at hk⟩
  · rw [uf_ne hrc, uf_ne hrc]
    exact ⟨a1, a2, a3⟩
end M
