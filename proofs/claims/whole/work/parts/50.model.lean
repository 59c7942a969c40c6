/-! THE REFERENCE: its store of 22100 bytes, read by places -/
def mSt (h : mmH) (o st : Nat) (R : Nat → Nat) : Prop := (∃ fs, h.2.2 o = some (.inr (10, fs)) ∧ fs[1]? = some (.ref st)) ∧ (∃ f, h.2.2 st = some (.inl (0, 22100, .inl f)) ∧ ∀ j, j < 22100 → f j = sb_b (R j)) ∧ ∀ j, R j < 256
theorem mSt_rcv {E : mmE} {h : mmH} {o st : Nat} {R : Nat → Nat} (hm : mSt h o st R) : mm_rcv E h 11 (some (.ref o)) = true := by
  obtain ⟨⟨fs, ho, -⟩, -⟩ := hm
  unfold mm_rcv
  dsimp only
  rw [if_neg (by decide), ho]
  rfl
theorem sb_0 : ∀ c, c < 256 → (sb_b c = 0 ↔ c = 0) := by decide +kernel
theorem sp_mat {E : mmE} {d o st k : Nat} {h : mmH} {R : Nat → Nat} {Q : Option Value → mmH → Prop} (hm : mSt h o st R) (hk : k < 22100) (hq : Q (some (.int (nI (R k)))) h) : mm_Go E d 114 (mm_blk 114 0) [.ref o, .int (nI k)] [] h Q := by
  obtain ⟨⟨fs, ho, hf⟩, ⟨f, hs, hR⟩, hB⟩ := hm
  repeat refine go_step ?_
  refine g_getf (.ref st) ho (by decide) hf ?_
  repeat refine go_step ?_
  refine g_bald (t := 0) (n := 22100) (f := f) (by unfold mm_aI; rw [hs]) (Or.inl rfl) (decide_eq_true (vp_in_nI hk (by decide))) ?_
  refine go_step ?_
  refine go_step ?_
  show mm_Go E d 114 _ _ [.int (f (nI k).toNatClampNeg &&& 255)] h Q
  rw [nI_clamp (by omega), hR k hk, (sb_byte (R k) (hB k)).1]
  refine go_step ?_
  exact gjp hq
/-- four bytes, the lowest first -/
def q_w (R : Nat → Nat) (k : Nat) : Int32 := nI (R k + 256 * R (k + 1) + 65536 * R (k + 2) + 16777216 * R (k + 3))
theorem sp_whole {E : mmE} {d o st k : Nat} {h : mmH} {R : Nat → Nat} {Q : Option Value → mmH → Prop} (hd : 1 ≤ d) (hm : mSt h o st R) (hk : k + 3 < 22100) (hq : Q (some (.int (q_w R k))) h) : mm_Go E d 118 (mm_blk 118 0) [.ref o, .int (nI k)] [] h Q := by
  repeat refine go_step ?_
  refine g_callV (by decide) (by decide) (Nat.le_of_ble_eq_true rfl) (Nat.le_of_ble_eq_true rfl) (mSt_rcv hm) hd (Nat.le_of_ble_eq_true rfl) rfl ?_
  refine sp_mat hm (by omega) ?_
  repeat refine go_step ?_
  refine g_callV (by decide) (by decide) (Nat.le_of_ble_eq_true rfl) (Nat.le_of_ble_eq_true rfl) (mSt_rcv hm) hd (Nat.le_of_ble_eq_true rfl) rfl ?_
  rw [show nI k + Int32.ofInt 1 = nI (k + 1) from nI_add k 1]
  refine sp_mat hm (by omega) ?_
  repeat refine go_step ?_
  refine g_callV (by decide) (by decide) (Nat.le_of_ble_eq_true rfl) (Nat.le_of_ble_eq_true rfl) (mSt_rcv hm) hd (Nat.le_of_ble_eq_true rfl) rfl ?_
  rw [show nI k + Int32.ofInt 2 = nI (k + 2) from nI_add k 2]
  refine sp_mat hm (by omega) ?_
  repeat refine go_step ?_
  refine g_callV (by decide) (by decide) (Nat.le_of_ble_eq_true rfl) (Nat.le_of_ble_eq_true rfl) (mSt_rcv hm) hd (Nat.le_of_ble_eq_true rfl) rfl ?_
  rw [show nI k + Int32.ofInt 3 = nI (k + 3) from nI_add k 3]
  refine sp_mat hm (by omega) ?_
  refine go_step ?_
  refine go_step ?_
  show mm_Go E d 118 _ _ [.int (nI (R k) + nI 256 * nI (R (k + 1)) + nI 65536 * nI (R (k + 2)) + nI 16777216 * nI (R (k + 3)))] h Q
  rw [pk_mul, pk_mul, pk_mul, nI_add, nI_add, nI_add]
  refine go_step ?_
  exact gjp hq
theorem sp_nameEnd {E : mmE} {d o st k e : Nat} {h : mmH} {R : Nat → Nat} {Q : Option Value → mmH → Prop} (hm : mSt h o st R) (hke : k ≤ e) (he : e < 22100) (h0 : R e = 0) (hn : ∀ j, k ≤ j → j < e → R j ≠ 0) (hq : Q (some (.int (nI e))) h) : mm_Go E d 124 (mm_blk 124 0) [.ref o, .int (nI k), mm_un] [] h Q := by
  obtain ⟨⟨fs, ho, hf⟩, ⟨f, hs, hR⟩, hB⟩ := hm
  have loop : ∀ (n j : Nat), n + j = e → k ≤ j → mm_Go E d 124 (mm_blk 124 1) [.ref o, .int (nI k), .int (nI j)] [] h Q := by
    intro n
    induction n with
    | zero =>
      intro j hj hkj
      have hje : j = e := by omega
      subst hje
      repeat refine go_step ?_
      refine g_getf (.ref st) ho (by decide) hf ?_
      repeat refine go_step ?_
      refine g_bald (t := 0) (n := 22100) (f := f) (by unfold mm_aI; rw [hs]) (Or.inl rfl) (decide_eq_true (vp_in_nI (by omega) (by decide))) ?_
      rw [nI_clamp (by omega), hR j (by omega)]
      repeat refine go_step ?_
      refine gif (fun c => ?_) (fun c => absurd ((sb_0 _ (hB j)).mpr h0) c)
      repeat refine go_step ?_
      exact gjp hq
    | succ n ih =>
      intro j hj hkj
      repeat refine go_step ?_
      refine g_getf (.ref st) ho (by decide) hf ?_
      repeat refine go_step ?_
      refine g_bald (t := 0) (n := 22100) (f := f) (by unfold mm_aI; rw [hs]) (Or.inl rfl) (decide_eq_true (vp_in_nI (by omega) (by decide))) ?_
      rw [nI_clamp (by omega), hR j (by omega)]
      repeat refine go_step ?_
      refine gif (fun c => absurd ((sb_0 _ (hB j)).mp c) (hn j hkj (by omega))) (fun c => ?_)
      repeat refine go_step ?_
      refine gjp ?_
      rw [show nI j + Int32.ofInt 1 = nI (j + 1) from nI_1 j]
      exact ih (j + 1) (by omega) (by omega)
  repeat refine go_step ?_
  refine gjp ?_
  exact loop (e - k) k (by omega) (Nat.le_refl _)
theorem sp_valueOf {E : mmE} {d o st p e : Nat} {h : mmH} {R : Nat → Nat} {Q : Option Value → mmH → Prop} (hd : 1 ≤ d) (hm : mSt h o st R) (hke : p + 1 ≤ e) (he : e < 22100) (h0 : R e = 0) (hn : ∀ j, p + 1 ≤ j → j < e → R j ≠ 0) (hq : Q (some (.int (nI (e + 1)))) h) : mm_Go E d 123 (mm_blk 123 0) [.ref o, .int (nI p)] [] h Q := by
  repeat refine go_step ?_
  refine g_callV (by decide) (by decide) (Nat.le_of_ble_eq_true rfl) (Nat.le_of_ble_eq_true rfl) (mSt_rcv hm) hd (Nat.le_of_ble_eq_true rfl) rfl ?_
  rw [show nI p + Int32.ofInt 1 = nI (p + 1) from nI_add p 1]
  refine sp_nameEnd hm hke he h0 hn ?_
  repeat refine go_step ?_
  refine gjp ?_
  rw [← nI_add e 1] at hq
  exact hq
/-- the place behind a value -/
def q_beh (R : Nat → Nat) (kd k : Nat) : Int32 := if kd = 16 then nI (k + 4) else if kd = 18 then nI (k + 8) else if kd = 8 then nI (k + 1) else if kd = 2 then nI (k + 4) + q_w R k else if kd = 3 ∨ kd = 4 then nI k + q_w R k else nI k
theorem sp_behind {E : mmE} {d o st kd k : Nat} {h : mmH} {R : Nat → Nat} {Q : Option Value → mmH → Prop} (hd : 2 ≤ d) (hm : mSt h o st R) (hkd : kd < 256) (hk : k + 8 < 22100) (hq : Q (some (.int (q_beh R kd k))) h) : mm_Go E d 125 (mm_blk 125 0) [.ref o, .int (nI kd), .int (nI k)] [] h Q := by
  unfold q_beh at hq
  repeat refine go_step ?_
  refine gif (fun c => ?_) (fun c => ?_)
  · rw [if_neg (fun q => c (by rw [q]; rfl))] at hq
    repeat refine go_step ?_
    refine gif (fun c2 => ?_) (fun c2 => ?_)
    · rw [if_neg (fun q => c2 (by rw [q]; rfl))] at hq
      repeat refine go_step ?_
      refine gif (fun c3 => ?_) (fun c3 => ?_)
      · rw [if_neg (fun q => c3 (by rw [q]; rfl))] at hq
        repeat refine go_step ?_
        refine gif (fun c4 => ?_) (fun c4 => ?_)
        · rw [if_neg (fun q => c4 (by rw [q]; rfl))] at hq
          have five : (kd = 3 ∨ kd = 4) → mm_Go E d 125 (mm_blk 125 5) [.ref o, .int (nI kd), .int (nI k)] [] h Q := by
            intro q
            rw [if_pos q] at hq
            repeat refine go_step ?_
            refine g_callV (by decide) (by decide) (Nat.le_of_ble_eq_true rfl) (Nat.le_of_ble_eq_true rfl) (mSt_rcv hm) (by omega) (Nat.le_of_ble_eq_true rfl) rfl ?_
            refine sp_whole (by omega) hm (by omega) ?_
            repeat refine go_step ?_
            refine gjp ?_
            repeat refine go_step ?_
            exact gjp hq
          repeat refine go_step ?_
          refine gif (fun c5 => five (Or.inl ((nI_eq (b := 3) (by omega) (by omega)).mp c5))) (fun c5 => ?_)
          repeat refine go_step ?_
          refine gif (fun c6 => ?_) (fun c6 => ?_)
          · rw [if_neg (fun q => by
              rcases q with q | q
              · exact c5 (by rw [q]; rfl)
              · exact c6 (by rw [q]; rfl))] at hq
            repeat refine go_step ?_
            refine gjp ?_
            repeat refine go_step ?_
            exact gjp hq
          · repeat refine go_step ?_
            refine gjp ?_
            exact five (Or.inr ((nI_eq (b := 4) (by omega) (by omega)).mp (Classical.not_not.mp c6)))
        · rw [if_pos ((nI_eq (b := 2) (by omega) (by omega)).mp (Classical.not_not.mp c4))] at hq
          repeat refine go_step ?_
          refine g_callV (by decide) (by decide) (Nat.le_of_ble_eq_true rfl) (Nat.le_of_ble_eq_true rfl) (mSt_rcv hm) (by omega) (Nat.le_of_ble_eq_true rfl) rfl ?_
          refine sp_whole (by omega) hm (by omega) ?_
          refine go_step ?_
          show mm_Go E d 125 _ _ [.int (nI k + nI 4 + q_w R k)] h Q
          rw [nI_add]
          repeat refine go_step ?_
          refine gjp ?_
          repeat refine go_step ?_
          exact gjp hq
      · rw [if_pos ((nI_eq (b := 8) (by omega) (by omega)).mp (Classical.not_not.mp c3))] at hq
        repeat refine go_step ?_
        refine gjp ?_
        repeat refine go_step ?_
        refine gjp ?_
        rw [← nI_add] at hq
        exact hq
    · rw [if_pos ((nI_eq (b := 18) (by omega) (by omega)).mp (Classical.not_not.mp c2))] at hq
      repeat refine go_step ?_
      refine gjp ?_
      repeat refine go_step ?_
      refine gjp ?_
      rw [← nI_add] at hq
      exact hq
  · rw [if_pos ((nI_eq (b := 16) (by omega) (by omega)).mp (Classical.not_not.mp c))] at hq
    repeat refine go_step ?_
    refine gjp ?_
    repeat refine go_step ?_
    refine gjp ?_
    rw [← nI_add] at hq
    exact hq
