/-! the filter's bytes stand from 0 on -/
section Z
variable {E : mmE} {d : Nat} {h : mmH} {Q : Option Value → mmH → Prop} {o st n : Nat} {R B : Nat → Nat} {x : Nat}
theorem z_at (hm : mSt h o st R) (hw : mW R 0 n B) (hx : x < n) (hq : Q (some (.int (nI (B x)))) h) : mm_Go E d 114 (mm_blk 114 0) [.ref o, .int (nI x)] [] h Q := by
  have := sp_mat2 (E := E) (d := d) (Q := Q) (b := 0) hm hw hx hq
  rwa [Nat.zero_add] at this
theorem z_val (hd : 1 ≤ d) (hm : mSt h o st R) (hw : mW R 0 n B) (hx : q_ne B x < n) (hq : Q (some (.int (nI (q_val B x)))) h) : mm_Go E d 123 (mm_blk 123 0) [.ref o, .int (nI x)] [] h Q := by
  have := sp_mval (E := E) (d := d) (Q := Q) (b := 0) hd hm hw hx (by rw [Nat.zero_add]; exact hq)
  rwa [Nat.zero_add] at this
theorem z_next (hd : 3 ≤ d) (hm : mSt h o st R) (hw : mW R 0 n B) (hx : q_ok B n x) (hq : Q (some (.int (nI (q_next B x)))) h) : mm_Go E d 122 (mm_blk 122 0) [.ref o, .int (nI x)] [] h Q := by
  have := sp_mnext (E := E) (d := d) (Q := Q) (b := 0) hd hm hw hx (by rw [Nat.zero_add]; exact hq)
  rwa [Nat.zero_add] at this
theorem z_last (hd : 2 ≤ d) (hm : mSt h o st R) (hw : mW R 0 n B) (hv : x + 4 ≤ n) (hs : 1 ≤ q_sz B x) (hq : Q (some (.int (nI (q_last B x)))) h) : mm_Go E d 128 (mm_blk 128 0) [.ref o, .int (nI x)] [] h Q := by
  have := sp_mlast (E := E) (d := d) (Q := Q) (b := 0) hd hm hw hv hs (by rw [Nat.zero_add]; exact hq)
  rwa [Nat.zero_add] at this
theorem z_nof (hd : 2 ≤ d) (hm : mSt h o st R) (hw : mW R 0 n B) (hne : q_ne B x < n) (hp : x ≤ 2000) (hq : Q (some (.int (nI (q_nof (q_word B x))))) h) : mm_Go E d 137 (mm_blk 137 0) [.ref o, .int (nI x)] [] h Q := by
  have := sp_mnumberOf (E := E) (d := d) (Q := Q) (b := 0) hd hm hw hne hp hq
  rwa [Nat.zero_add] at this
theorem z_cond (hd : 2 ≤ d) (hm : mSt h o st R) (hw : mW R 0 n B) (hok : q_ok B n x) (hq : Q (some (.int (q_t (q_cond B x)))) h) : mm_Go E d 135 (mm_blk 135 0) [.ref o, .int (nI x), mm_un] [] h Q := by
  have := sp_miscond (E := E) (d := d) (Q := Q) (b := 0) hd hm hw hok hq
  rwa [Nat.zero_add] at this
theorem z_ofi {lev last : Nat} (hd : 3 ≤ d) (hm : mSt h o st R) (hw : mW R 0 n B) (hok : q_ok B n x) (hln : last ≤ n) (hbx : B x = 3 → q_box (q_u8 B) B lev (q_val B x) last false = true) (hq : Q (some (.int (q_t (q_ofi B x)))) h) : mm_Go E d 139 (mm_blk 139 0) [.ref o, .int (nI x)] [] h Q := by
  have := sp_misofi (E := E) (d := d) (Q := Q) (b := 0) hd hm hw hok hln hbx hq
  rwa [Nat.zero_add] at this
theorem z_isn {w : Nat} (j : Nat) (hj : j < 15) (hd : 1 ≤ d) (hm : mSt h o st R) (hw : mW R 0 n B) (hne : q_ne B x < n) (hp : x ≤ 2000) (he : q_enc (q_wl.getD j []) = w) (hq : Q (some (.int (q_t (decide (q_word B x = j + 2))))) h) : mm_Go E d 131 (mm_blk 131 0) [.ref o, .int (nI x), .long (lN w), mm_un, mm_un, mm_un, mm_un] [] h Q := by
  have := sp_misn (E := E) (d := d) (Q := Q) (b := 0) j hj hd hm hw hne hp he hq
  rwa [Nat.zero_add] at this
theorem z_ne (hm : mSt h o st R) (hw : mW R 0 n B) (hx : q_ne B x < n) (hq : Q (some (.int (nI (q_ne B x)))) h) : mm_Go E d 124 (mm_blk 124 0) [.ref o, .int (nI (x + 1)), mm_un] [] h Q := by
  have := sp_mne (E := E) (d := d) (Q := Q) (b := 0) hm hw hx (by rw [Nat.zero_add]; exact hq)
  rwa [Nat.zero_add] at this
theorem z_ord {f l1 l2 : Nat} (hd : 40 ≤ d) (hm : mSt h o st R) (hw : mW R 0 n B) (h1 : l1 < 17) (h2 : l2 < 17) (m1 : q_me B n x l1) (m2 : q_me B n f l2) (hq : Q (some (.int (q_ord B B 17 x f))) h) : mm_Go E d 153 (mm_blk 153 0) [.ref o, .int (nI x), .int (nI f), mm_un, mm_un, mm_un, mm_un, mm_un, mm_un, mm_un, mm_un] [] h Q := by
  have := sp_morder (E := E) (b1 := 0) (b2 := 0) hm hw hw 17 d x f l1 l2 Q (by omega) h1 h2 m1 m2 hq
  rwa [Nat.zero_add, Nat.zero_add] at this
end Z
/-! how two ends stand -/
def q_std (ob : Nat → Nat → Int32) (x y : qE) : Int32 := if x.1 ≠ y.1 then q_c3 x.1 y.1 else if x.2.1 ≠ y.2.1 then q_c3 x.2.1 y.2.1 else if x.2.1 = 1 then ob x.2.2.2 y.2.2.2 else 0
def q_okE (B : Nat → Nat) (n : Nat) (x : qE) : Prop := 1 ≤ x.1 ∧ x.1 ≤ 6 ∧ x.2.1 ≤ 2 ∧ x.2.2.1 ≤ 1 ∧ (x.2.1 = 1 → q_cls (B x.2.2.2) = x.1 ∧ ∃ lev, lev < 17 ∧ q_me B n x.2.2.2 lev)
def q_okR (B : Nat → Nat) (n : Nat) (r : qR) : Prop := q_okE B n r.1 ∧ q_okE B n r.2
section M
variable {E : mmE} {d : Nat} {h : mmH} {Q : Option Value → mmH → Prop} {o : Nat} {R B : Nat → Nat}
theorem sp_mstand {x y : qE} {z : Int32} {ob : Nat → Nat → Int32} (hd : 1 ≤ d) (hrc : mm_rcv E h 11 (some (.ref o)) = true) (hx : x.1 < 100 ∧ x.2.1 < 100) (hy : y.1 < 100 ∧ y.2.1 < 100)
    (hob : x.2.1 = 1 → y.2.1 = 1 → x.1 = y.1 → ∀ Q' : Option Value → mmH → Prop, Q' (some (.int (ob x.2.2.2 y.2.2.2))) h → mm_Go E (d - 1) 153 (mm_blk 153 0) [.ref o, .int (nI x.2.2.2), .int z, mm_un, mm_un, mm_un, mm_un, mm_un, mm_un, mm_un, mm_un] [] h Q')
    (hq : Q (some (.int (q_std ob x y))) h) : mm_Go E d 160 (mm_blk 160 0) [.ref o, .int (nI x.1), .int (nI x.2.1), .int (q_ef x 3), .int (nI y.1), .int (nI y.2.1), .int z] [] h Q := by
  unfold q_std at hq
  repeat (first | refine gi_con ?_ | refine gi_bip (Nat.le_of_ble_eq_true rfl) ?_ | refine gi_sip (Nat.le_of_ble_eq_true rfl) ?_ | refine gi_ldc ?_ | refine gi_add ?_ | refine gi_inc rfl ?_ | refine gi_sub (by omega) ?_ | refine gi_mul ?_ | refine go_nx rfl ?_)
  first | refine gb_lt (by omega) (by omega) (fun c1 => ?_) (fun c1 => ?_) | refine gb_ge (by omega) (by omega) (fun c1 => ?_) (fun c1 => ?_) | refine gb_gt (by omega) (by omega) (fun c1 => ?_) (fun c1 => ?_) | refine gb_le (by omega) (by omega) (fun c1 => ?_) (fun c1 => ?_) | refine gb_eq (by omega) (by omega) (fun c1 => ?_) (fun c1 => ?_) | refine gb_ne (by omega) (by omega) (fun c1 => ?_) (fun c1 => ?_)
  · rw [if_neg (fun q => q c1)] at hq
    repeat (first | refine gi_con ?_ | refine gi_bip (Nat.le_of_ble_eq_true rfl) ?_ | refine gi_sip (Nat.le_of_ble_eq_true rfl) ?_ | refine gi_ldc ?_ | refine gi_add ?_ | refine gi_inc rfl ?_ | refine gi_sub (by omega) ?_ | refine gi_mul ?_ | refine go_nx rfl ?_)
    first | refine gb_lt (by omega) (by omega) (fun c2 => ?_) (fun c2 => ?_) | refine gb_ge (by omega) (by omega) (fun c2 => ?_) (fun c2 => ?_) | refine gb_gt (by omega) (by omega) (fun c2 => ?_) (fun c2 => ?_) | refine gb_le (by omega) (by omega) (fun c2 => ?_) (fun c2 => ?_) | refine gb_eq (by omega) (by omega) (fun c2 => ?_) (fun c2 => ?_) | refine gb_ne (by omega) (by omega) (fun c2 => ?_) (fun c2 => ?_)
    · rw [if_neg (fun q => q c2)] at hq
      repeat (first | refine gi_con ?_ | refine gi_bip (Nat.le_of_ble_eq_true rfl) ?_ | refine gi_sip (Nat.le_of_ble_eq_true rfl) ?_ | refine gi_ldc ?_ | refine gi_add ?_ | refine gi_inc rfl ?_ | refine gi_sub (by omega) ?_ | refine gi_mul ?_ | refine go_nx rfl ?_)
      first | refine gb_lt (by omega) (by omega) (fun c3 => ?_) (fun c3 => ?_) | refine gb_ge (by omega) (by omega) (fun c3 => ?_) (fun c3 => ?_) | refine gb_gt (by omega) (by omega) (fun c3 => ?_) (fun c3 => ?_) | refine gb_le (by omega) (by omega) (fun c3 => ?_) (fun c3 => ?_) | refine gb_eq (by omega) (by omega) (fun c3 => ?_) (fun c3 => ?_) | refine gb_ne (by omega) (by omega) (fun c3 => ?_) (fun c3 => ?_)
      · rw [if_neg c3] at hq
        repeat (first | refine gi_con ?_ | refine gi_bip (Nat.le_of_ble_eq_true rfl) ?_ | refine gi_sip (Nat.le_of_ble_eq_true rfl) ?_ | refine gi_ldc ?_ | refine gi_add ?_ | refine gi_inc rfl ?_ | refine gi_sub (by omega) ?_ | refine gi_mul ?_ | refine go_nx rfl ?_)
        refine go_jp rfl ?_
        refine go_rt rfl ?_
        exact hq
      · rw [if_pos c3] at hq
        have e3 : q_ef x 3 = nI x.2.2.2 := by
          unfold q_ef
          rw [if_neg (by decide), if_neg (by decide), if_neg (by decide), if_pos c3]
        rw [e3]
        repeat (first | refine gi_con ?_ | refine gi_bip (Nat.le_of_ble_eq_true rfl) ?_ | refine gi_sip (Nat.le_of_ble_eq_true rfl) ?_ | refine gi_ldc ?_ | refine gi_add ?_ | refine gi_inc rfl ?_ | refine gi_sub (by omega) ?_ | refine gi_mul ?_ | refine go_nx rfl ?_)
        refine go_step ?_
        refine g_callV (by decide) (by decide) (Nat.le_of_ble_eq_true rfl) (Nat.le_of_ble_eq_true rfl) hrc (by omega) (Nat.le_of_ble_eq_true rfl) rfl ?_
        refine hob c3 (by omega) c1 _ ?_
        repeat (first | refine gi_con ?_ | refine gi_bip (Nat.le_of_ble_eq_true rfl) ?_ | refine gi_sip (Nat.le_of_ble_eq_true rfl) ?_ | refine gi_ldc ?_ | refine gi_add ?_ | refine gi_inc rfl ?_ | refine gi_sub (by omega) ?_ | refine gi_mul ?_ | refine go_nx rfl ?_)
        refine go_jp rfl ?_
        refine go_rt rfl ?_
        exact hq
    · rw [if_pos c2] at hq
      unfold q_c3 at hq
      repeat (first | refine gi_con ?_ | refine gi_bip (Nat.le_of_ble_eq_true rfl) ?_ | refine gi_sip (Nat.le_of_ble_eq_true rfl) ?_ | refine gi_ldc ?_ | refine gi_add ?_ | refine gi_inc rfl ?_ | refine gi_sub (by omega) ?_ | refine gi_mul ?_ | refine go_nx rfl ?_)
      first | refine gb_lt (by omega) (by omega) (fun c3 => ?_) (fun c3 => ?_) | refine gb_ge (by omega) (by omega) (fun c3 => ?_) (fun c3 => ?_) | refine gb_gt (by omega) (by omega) (fun c3 => ?_) (fun c3 => ?_) | refine gb_le (by omega) (by omega) (fun c3 => ?_) (fun c3 => ?_) | refine gb_eq (by omega) (by omega) (fun c3 => ?_) (fun c3 => ?_) | refine gb_ne (by omega) (by omega) (fun c3 => ?_) (fun c3 => ?_)
      · rw [if_neg (by omega), if_neg c2] at hq
        repeat (first | refine gi_con ?_ | refine gi_bip (Nat.le_of_ble_eq_true rfl) ?_ | refine gi_sip (Nat.le_of_ble_eq_true rfl) ?_ | refine gi_ldc ?_ | refine gi_add ?_ | refine gi_inc rfl ?_ | refine gi_sub (by omega) ?_ | refine gi_mul ?_ | refine go_nx rfl ?_)
        refine go_jp rfl ?_
        refine go_rt rfl ?_
        exact hq
      · rw [if_pos c3] at hq
        repeat (first | refine gi_con ?_ | refine gi_bip (Nat.le_of_ble_eq_true rfl) ?_ | refine gi_sip (Nat.le_of_ble_eq_true rfl) ?_ | refine gi_ldc ?_ | refine gi_add ?_ | refine gi_inc rfl ?_ | refine gi_sub (by omega) ?_ | refine gi_mul ?_ | refine go_nx rfl ?_)
        refine go_jp rfl ?_
        refine go_rt rfl ?_
        exact hq
  · rw [if_pos c1] at hq
    unfold q_c3 at hq
    repeat (first | refine gi_con ?_ | refine gi_bip (Nat.le_of_ble_eq_true rfl) ?_ | refine gi_sip (Nat.le_of_ble_eq_true rfl) ?_ | refine gi_ldc ?_ | refine gi_add ?_ | refine gi_inc rfl ?_ | refine gi_sub (by omega) ?_ | refine gi_mul ?_ | refine go_nx rfl ?_)
    first | refine gb_lt (by omega) (by omega) (fun c2 => ?_) (fun c2 => ?_) | refine gb_ge (by omega) (by omega) (fun c2 => ?_) (fun c2 => ?_) | refine gb_gt (by omega) (by omega) (fun c2 => ?_) (fun c2 => ?_) | refine gb_le (by omega) (by omega) (fun c2 => ?_) (fun c2 => ?_) | refine gb_eq (by omega) (by omega) (fun c2 => ?_) (fun c2 => ?_) | refine gb_ne (by omega) (by omega) (fun c2 => ?_) (fun c2 => ?_)
    · rw [if_neg (by omega), if_neg c1] at hq
      repeat (first | refine gi_con ?_ | refine gi_bip (Nat.le_of_ble_eq_true rfl) ?_ | refine gi_sip (Nat.le_of_ble_eq_true rfl) ?_ | refine gi_ldc ?_ | refine gi_add ?_ | refine gi_inc rfl ?_ | refine gi_sub (by omega) ?_ | refine gi_mul ?_ | refine go_nx rfl ?_)
      refine go_jp rfl ?_
      refine go_rt rfl ?_
      exact hq
    · rw [if_pos c2] at hq
      repeat (first | refine gi_con ?_ | refine gi_bip (Nat.le_of_ble_eq_true rfl) ?_ | refine gi_sip (Nat.le_of_ble_eq_true rfl) ?_ | refine gi_ldc ?_ | refine gi_add ?_ | refine gi_inc rfl ?_ | refine gi_sub (by omega) ?_ | refine gi_mul ?_ | refine go_nx rfl ?_)
      refine go_jp rfl ?_
      refine go_rt rfl ?_
      exact hq
end M
