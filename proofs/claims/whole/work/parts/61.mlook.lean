/-! THE REFERENCE: the faults of a filter -/
/-- counted and fault -/
def mI (I : Nat → Int32) (c f : Nat) : Nat → Int32 := uf (uf I 9 (nI c)) 10 (nI f)
theorem mI_9 (I : Nat → Int32) (c f x : Nat) : uf (mI I c f) 9 (nI x) = mI I x f := by
  funext j
  unfold mI uf
  by_cases h1 : j = 9
  · subst h1; rfl
  · by_cases h2 : j = 10
    · subst h2; rfl
    · rw [if_neg h1, if_neg h2, if_neg h2, if_neg h1, if_neg h1]
theorem mI_10 (I : Nat → Int32) (c f x : Nat) : uf (mI I c f) 10 (nI x) = mI I c x := by
  funext j
  unfold mI uf
  by_cases h2 : j = 10
  · rw [if_pos h2, if_pos h2]
  · rw [if_neg h2, if_neg h2, if_neg h2]
section M
variable {E : mmE} {d : Nat} {h : mmH} {Q : Option Value → mmH → Prop} {o n b : Nat} {ad : Nat → Nat} {I : Nat → Int32} {C : Nat → Nat → Int32} {R B : Nat → Nat} {c f : Nat}
theorem sp_mfails {why : Nat} (hf : f < 100) (hq : Q none (mH h o ad (mI I c (if f = 0 then why else f)) C)) : mm_Go E d 132 (mm_blk 132 0) [.ref o, .int (nI why)] [] (mH h o ad (mI I c f) C) Q := by
  repeat (first | refine gi_con ?_ | refine gi_bip (Nat.le_of_ble_eq_true rfl) ?_ | refine gi_sip (Nat.le_of_ble_eq_true rfl) ?_ | refine gi_ldc ?_ | refine gi_add ?_ | refine gi_inc rfl ?_ | refine gi_sub (by omega) ?_ | refine gi_mul ?_ | refine go_nx rfl ?_)
  refine gm_get (.int (nI f)) rfl rfl ?_
  first | refine gz_eq (by omega) (fun c1 => ?_) (fun c1 => ?_) | refine gz_ne (by omega) (fun c1 => ?_) (fun c1 => ?_) | refine gz_le (by omega) (fun c1 => ?_) (fun c1 => ?_) | refine gz_gt (by omega) (fun c1 => ?_) (fun c1 => ?_) | refine gz_lt (by omega) (fun c1 => ?_) (fun c1 => ?_) | refine gz_ge (by omega) (fun c1 => ?_) (fun c1 => ?_)
  · rw [if_neg (by omega)] at hq
    repeat (first | refine gi_con ?_ | refine gi_bip (Nat.le_of_ble_eq_true rfl) ?_ | refine gi_sip (Nat.le_of_ble_eq_true rfl) ?_ | refine gi_ldc ?_ | refine gi_add ?_ | refine gi_inc rfl ?_ | refine gi_sub (by omega) ?_ | refine gi_mul ?_ | refine go_nx rfl ?_)
    refine gm_get (.int (nI f)) rfl rfl ?_
    repeat (first | refine gi_con ?_ | refine gi_bip (Nat.le_of_ble_eq_true rfl) ?_ | refine gi_sip (Nat.le_of_ble_eq_true rfl) ?_ | refine gi_ldc ?_ | refine gi_add ?_ | refine gi_inc rfl ?_ | refine gi_sub (by omega) ?_ | refine gi_mul ?_ | refine go_nx rfl ?_)
    refine go_jp rfl ?_
    refine gm_put 10 rfl rfl (by decide) rfl ?_
    rw [mI_10]
    refine go_rt rfl ?_
    exact hq
  · rw [if_pos c1] at hq
    repeat (first | refine gi_con ?_ | refine gi_bip (Nat.le_of_ble_eq_true rfl) ?_ | refine gi_sip (Nat.le_of_ble_eq_true rfl) ?_ | refine gi_ldc ?_ | refine gi_add ?_ | refine gi_inc rfl ?_ | refine gi_sub (by omega) ?_ | refine gi_mul ?_ | refine go_nx rfl ?_)
    refine go_jp rfl ?_
    refine gm_put 10 rfl rfl (by decide) rfl ?_
    rw [mI_10]
    refine go_rt rfl ?_
    exact hq
theorem sp_mcounts {m : Nat} (hd : 1 ≤ d) (hm : m ≤ 2) (hc : c ≤ 200) (hf : f < 100) (hq : Q none (mH h o ad (mI I (c + m) (if 100 < c + m then (if f = 0 then 5 else f) else f)) C)) : mm_Go E d 133 (mm_blk 133 0) [.ref o, .int (nI m)] [] (mH h o ad (mI I c f) C) Q := by
  repeat (first | refine gi_con ?_ | refine gi_bip (Nat.le_of_ble_eq_true rfl) ?_ | refine gi_sip (Nat.le_of_ble_eq_true rfl) ?_ | refine gi_ldc ?_ | refine gi_add ?_ | refine gi_inc rfl ?_ | refine gi_sub (by omega) ?_ | refine gi_mul ?_ | refine go_nx rfl ?_)
  refine gm_get (.int (nI c)) rfl rfl ?_
  repeat (first | refine gi_con ?_ | refine gi_bip (Nat.le_of_ble_eq_true rfl) ?_ | refine gi_sip (Nat.le_of_ble_eq_true rfl) ?_ | refine gi_ldc ?_ | refine gi_add ?_ | refine gi_inc rfl ?_ | refine gi_sub (by omega) ?_ | refine gi_mul ?_ | refine go_nx rfl ?_)
  refine gm_put 9 rfl rfl (by decide) rfl ?_
  rw [mI_9]
  repeat (first | refine gi_con ?_ | refine gi_bip (Nat.le_of_ble_eq_true rfl) ?_ | refine gi_sip (Nat.le_of_ble_eq_true rfl) ?_ | refine gi_ldc ?_ | refine gi_add ?_ | refine gi_inc rfl ?_ | refine gi_sub (by omega) ?_ | refine gi_mul ?_ | refine go_nx rfl ?_)
  refine gm_get (.int (nI (c + m))) rfl rfl ?_
  repeat (first | refine gi_con ?_ | refine gi_bip (Nat.le_of_ble_eq_true rfl) ?_ | refine gi_sip (Nat.le_of_ble_eq_true rfl) ?_ | refine gi_ldc ?_ | refine gi_add ?_ | refine gi_inc rfl ?_ | refine gi_sub (by omega) ?_ | refine gi_mul ?_ | refine go_nx rfl ?_)
  first | refine gb_lt (by omega) (by omega) (fun c1 => ?_) (fun c1 => ?_) | refine gb_ge (by omega) (by omega) (fun c1 => ?_) (fun c1 => ?_) | refine gb_gt (by omega) (by omega) (fun c1 => ?_) (fun c1 => ?_) | refine gb_le (by omega) (by omega) (fun c1 => ?_) (fun c1 => ?_) | refine gb_eq (by omega) (by omega) (fun c1 => ?_) (fun c1 => ?_) | refine gb_ne (by omega) (by omega) (fun c1 => ?_) (fun c1 => ?_)
  · rw [if_neg (by omega)] at hq
    refine go_rt rfl ?_
    exact hq
  · rw [if_pos (by omega)] at hq
    repeat (first | refine gi_con ?_ | refine gi_bip (Nat.le_of_ble_eq_true rfl) ?_ | refine gi_sip (Nat.le_of_ble_eq_true rfl) ?_ | refine gi_ldc ?_ | refine gi_add ?_ | refine gi_inc rfl ?_ | refine gi_sub (by omega) ?_ | refine gi_mul ?_ | refine go_nx rfl ?_)
    refine go_step ?_
    refine g_callV (by decide) (by decide) (Nat.le_of_ble_eq_true rfl) (Nat.le_of_ble_eq_true rfl) mH_rcv (by omega) (Nat.le_of_ble_eq_true rfl) rfl ?_
    refine sp_mfails hf ?_
    repeat (first | refine gi_con ?_ | refine gi_bip (Nat.le_of_ble_eq_true rfl) ?_ | refine gi_sip (Nat.le_of_ble_eq_true rfl) ?_ | refine gi_ldc ?_ | refine gi_add ?_ | refine gi_inc rfl ?_ | refine gi_sub (by omega) ?_ | refine gi_mul ?_ | refine go_nx rfl ?_)
    refine go_jp rfl ?_
    refine go_rt rfl ?_
    exact hq
end M
