/-! from kit/laws/BITS.to-paste: longs as naturals -/
theorem wb_tb (n : Nat) : (lN n).toBitVec = BitVec.ofNat 64 n := rfl
theorem wb_inj {a b : Int64} (h : a.toBitVec = b.toBitVec) : a = b := Int64.toBitVec_inj.mp h
theorem wb_tn {n : Nat} (h : n < 2 ^ 64) : (lN n).toBitVec.toNat = n := by rw [wb_tb, BitVec.toNat_ofNat, Nat.mod_eq_of_lt h]
theorem wb_of (x : Int64) : ∃ n, n < 2 ^ 64 ∧ x = lN n := ⟨x.toBitVec.toNat, x.toBitVec.isLt, wb_inj (by rw [wb_tb]; simp)⟩
theorem wb_of32 (x : Int32) : ∃ n, n < 2 ^ 32 ∧ x = nI n := ⟨x.toBitVec.toNat, x.toBitVec.isLt, Int32.toBitVec_inj.mp (by show _ = BitVec.ofNat 32 _; simp)⟩
theorem wb_c : ∀ k, k < 64 → ((nI k).toInt64 &&& 63) = lN k := by decide +kernel
theorem wb_cu : ∀ k, k < 64 → ((nI k).toInt64.toUInt64 &&& Int64.toUInt64 63) = UInt64.ofNat k := by decide +kernel
theorem wb_sm : ∀ k, k < 64 → (BitVec.ofNat 64 k).smod 64 = BitVec.ofNat 64 k := by decide +kernel
theorem wb_pw {a b : Nat} (h : a ≤ b) : 2 ^ b = 2 ^ a * 2 ^ (b - a) := by rw [← Nat.pow_add]; congr 1; omega
theorem wb_lt2 {a b : Nat} (h : a < b) : 2 ^ a < 2 ^ b := Nat.pow_lt_pow_right (by decide) h
theorem wb_mod (n : Nat) : lN n = lN (n % 2 ^ 64) := wb_inj (by rw [wb_tb, wb_tb]; apply BitVec.eq_of_toNat_eq; rw [BitVec.toNat_ofNat, BitVec.toNat_ofNat, Nat.mod_mod])
theorem wb_shr {n k : Nat} (hn : n < 2 ^ 64) (hk : k < 64) : ((lN n).toUInt64 >>> ((nI k).toInt64.toUInt64 &&& Int64.toUInt64 63)).toInt64 = lN (n / 2 ^ k) := by
  rw [wb_cu k hk]
  apply wb_inj
  apply BitVec.eq_of_toNat_eq
  show ((lN n).toUInt64 >>> UInt64.ofNat k).toNat = (BitVec.ofNat 64 _).toNat
  have h1 : (UInt64.ofNat k).toNat = k := by
    show (BitVec.ofNat 64 k).toNat = k
    rw [BitVec.toNat_ofNat, Nat.mod_eq_of_lt (by omega)]
  have h2 : (lN n).toUInt64.toNat = n := wb_tn hn
  rw [UInt64.toNat_shiftRight, h1, h2, Nat.mod_eq_of_lt hk, Nat.shiftRight_eq_div_pow, BitVec.toNat_ofNat, Nat.mod_eq_of_lt (Nat.lt_of_le_of_lt (Nat.div_le_self _ _) hn)]
theorem wb_shl (n : Nat) {k : Nat} (hk : k < 64) : lN n <<< ((nI k).toInt64 &&& 63) = lN (n * 2 ^ k) := by
  rw [wb_c k hk]
  apply wb_inj
  rw [Int64.toBitVec_shiftLeft, wb_tb, wb_tb, wb_tb, wb_sm k hk]
  apply BitVec.eq_of_toNat_eq
  rw [BitVec.shiftLeft_eq', BitVec.toNat_shiftLeft, BitVec.toNat_ofNat, BitVec.toNat_ofNat, BitVec.toNat_ofNat, Nat.mod_eq_of_lt (show k < 2 ^ 64 by omega), Nat.shiftLeft_eq, Nat.mul_mod, Nat.mod_mod, ← Nat.mul_mod]
theorem wb_and {a b : Nat} (ha : a < 2 ^ 64) (hb : b < 2 ^ 64) : lN a &&& lN b = lN (a &&& b) := by
  apply wb_inj
  rw [Int64.toBitVec_and, wb_tb, wb_tb, wb_tb]
  apply BitVec.eq_of_toNat_eq
  rw [BitVec.toNat_and, BitVec.toNat_ofNat, BitVec.toNat_ofNat, BitVec.toNat_ofNat, Nat.mod_eq_of_lt ha, Nat.mod_eq_of_lt hb, Nat.mod_eq_of_lt (Nat.and_lt_two_pow _ hb)]
theorem wb_or {a b : Nat} (ha : a < 2 ^ 64) (hb : b < 2 ^ 64) : lN a ||| lN b = lN (a ||| b) := by
  apply wb_inj
  rw [Int64.toBitVec_or, wb_tb, wb_tb, wb_tb]
  apply BitVec.eq_of_toNat_eq
  rw [BitVec.toNat_or, BitVec.toNat_ofNat, BitVec.toNat_ofNat, BitVec.toNat_ofNat, Nat.mod_eq_of_lt ha, Nat.mod_eq_of_lt hb, Nat.mod_eq_of_lt (Nat.or_lt_two_pow ha hb)]
theorem wb_mask {n k : Nat} (hn : n < 2 ^ 64) (hk : k < 64) : lN n &&& lN (2 ^ k - 1) = lN (n % 2 ^ k) := by
  rw [wb_and hn (by have := wb_lt2 hk; omega), Nat.and_two_pow_sub_one_eq_mod]
theorem pf_lI {a : Nat} (h : a < 2 ^ 63) : (lN a).toInt = (a : Int) := lg_ofNat_toInt h
theorem pf_shr {a d : Nat} {D : Int64} (hD : (D.toBitVec.smod 64).toNat = d) (h : a < 2 ^ 62) : lN a >>> D = lN (a / 2 ^ d) := by
  have hd : a / 2 ^ d ≤ a := Nat.div_le_self _ _
  apply Int64.toInt_inj.mp
  have e : (lN a >>> D).toInt = (lN a).toInt >>> d := by
    rw [← hD]
    exact BitVec.toInt_sshiftRight ..
  rw [e, Int.shiftRight_eq_div_pow, pf_lI (by omega), pf_lI (by omega)]
  rfl
/-! THE REFERENCE: words -/
def q_enc : List Nat → Nat
  | [] => 0
  | c :: t => c + 256 * q_enc t
theorem q_eqs_iff {A T : Nat → Nat} : ∀ {k i : Nat}, (q_eqs A T k i = true ↔ ∀ j, i ≤ j → j < i + k → A j = T j) := by
  intro k
  induction k with
  | zero =>
    intro i
    exact ⟨fun _ j h1 h2 => by omega, fun _ => rfl⟩
  | succ k ih =>
    intro i
    unfold q_eqs
    by_cases h : A i = T i
    · rw [if_pos h, ih]
      refine ⟨fun q j h1 h2 => ?_, fun q j h1 h2 => q j (by omega) (by omega)⟩
      by_cases hj : j = i
      · rw [hj]; exact h
      · exact q j (by omega) (by omega)
    · rw [if_neg h]
      exact ⟨fun q => Bool.noConfusion q, fun q => absurd (q i (by omega) (by omega)) h⟩
theorem q_isw_iff {B T : Nat → Nat} {fr to n : Nat} : q_isw B fr to n T = true ↔ to - fr = n ∧ ∀ j, j < n → B (fr + j) = T j := by
  unfold q_isw
  rw [Bool.and_eq_true, decide_eq_true_eq, q_eqs_iff]
  exact ⟨fun q => ⟨q.1, fun j hj => q.2 j (by omega) (by omega)⟩, fun q => ⟨q.1, fun j _ hj => q.2 j (by omega)⟩⟩
theorem lN_shr8 {a : Nat} (h : a < 2 ^ 62) : lN a >>> ((nI 8).toInt64 &&& 63) = lN (a / 256) := pf_shr (d := 8) (by decide) h
theorem lN_a255 {a : Nat} (h : a < 2 ^ 63) : (lN a &&& Int64.ofNat 255).toInt32 = nI (a % 256) := by
  have := wb_mask (n := a) (k := 8) (by omega) (by decide)
  have e1 : lN (2 ^ 8 - 1) = Int64.ofNat 255 := by decide
  rw [← e1, this, lN_i]
theorem q_enc_lt : ∀ (T : List Nat), (∀ c ∈ T, c < 256) → q_enc T < 256 ^ T.length := by
  intro T
  induction T with
  | nil => intro _; exact Nat.one_pos
  | cons c t ih =>
    intro h
    have h1 := h c List.mem_cons_self
    have h2 := ih (fun x hx => h x (List.mem_cons_of_mem _ hx))
    unfold q_enc
    rw [List.length_cons, Nat.pow_succ]
    omega
theorem gl_le {E : mmE} {d m pc : Nat} {is : List mmI} {L S : List Value} {h : mmH} {Q : Option Value → mmH → Prop} {ex : List Nat} {off : Int} {x y : Int64} (h1 : x ≤ y → mm_Go E d m (mm_blk m (mm_k0 ex)) L S h Q) (h2 : y < x → mm_Go E d m is L S h Q) : mm_Go E d m ((pc, .ifCond .le off, ex) :: is) L (.int (lg_cmp x y) :: S) h Q :=
  go_br (c := decide (lg_cmp x y ≤ 0)) rfl (fun c => h1 ((lg_cmp_le x y).mp (of_decide_eq_true c))) (fun c => h2 (by
    have c1 := of_decide_eq_false c
    rw [lg_cmp_le] at c1
    exact Int64.not_le.mp c1))
theorem gi_lsr8 {E : mmE} {d m pc : Nat} {is : List mmI} {L S : List Value} {h : mmH} {Q : Option Value → mmH → Prop} {ex : List Nat} {a : Nat} (ha : a < 2 ^ 62) (hg : mm_Go E d m is L (.long (lN (a / 256)) :: S) h Q) : mm_Go E d m ((pc, .lshr, ex) :: is) L (.int (nI 8) :: .long (lN a) :: S) h Q := go_nx (by
  show mm_nx L (.long (lN a >>> ((nI 8).toInt64 &&& 63)) :: S) h = _
  rw [lN_shr8 ha]) hg
theorem sp_mnamed {E : mmE} {d : Nat} {h : mmH} {Q : Option Value → mmH → Prop} {o st b p e w : Nat} {R B : Nat → Nat} (T : List Nat) (hd : 1 ≤ d) (hm : mSt h o st R) (hw : ∀ j, j ≤ e → R (b + j) = B j) (hp : p + 1 ≤ e) (he : b + e < 22100) (h0 : B e = 0) (hn : ∀ j, p + 1 ≤ j → j < e → B j ≠ 0) (hT : ∀ c ∈ T, 0 < c ∧ c < 256) (hl : T.length ≤ 7) (hw' : q_enc T = w) (hq : Q (some (.int (q_t (q_isw B (p + 1) e T.length (fun i => T.getD i 0))))) h) : mm_Go E d 131 (mm_blk 131 0) [.ref o, .int (nI (b + p)), .long (lN w), mm_un, mm_un, mm_un, mm_un] [] h Q := by
  subst hw'
  have hR := hm.2.2
  have nz : ∀ i, i < T.length → 0 < T.getD i 0 ∧ T.getD i 0 < 256 := by
    intro i hi
    rw [List.getD_eq_getElem?_getD, List.getElem?_eq_getElem hi]
    exact hT _ (List.getElem_mem hi)
  have inn : ∀ i, i ≤ T.length → (∀ j, j < i → B (p + 1 + j) = T.getD j 0) → p + 1 + i ≤ e := by
    intro i hi hj
    by_cases h1 : p + 1 + i ≤ e
    · exact h1
    · have h2 := hj (e - (p + 1)) (by omega)
      rw [show p + 1 + (e - (p + 1)) = e by omega, h0] at h2
      have h3 := nz (e - (p + 1)) (by omega)
      omega
  have loop : ∀ (U : List Nat) (i : Nat), T.drop i = U → i ≤ T.length → (∀ j, j < i → B (p + 1 + j) = T.getD j 0) → mm_Go E d 131 (mm_blk 131 1) [.ref o, .int (nI (b + p)), .long (lN (q_enc T)), mm_un, .int (nI (b + (p + 1 + i))), .long (lN (q_enc U)), mm_un] [] h Q := by
    intro U
    induction U with
    | nil =>
      intro i hi hil hj
      have hii : i = T.length := by
        have := congrArg List.length hi
        rw [List.length_drop, List.length_nil] at this
        omega
      have hin := inn i hil hj
      repeat (first | refine gi_con ?_ | refine gi_bip (Nat.le_of_ble_eq_true rfl) ?_ | refine gi_sip (Nat.le_of_ble_eq_true rfl) ?_ | refine gi_ldc ?_ | refine gi_add ?_ | refine gi_inc rfl ?_ | refine gi_sub (by omega) ?_ | refine gi_mul ?_ | refine go_nx rfl ?_)
      refine gl_le (fun c => ?_) (fun c => absurd c (by decide))
      repeat (first | refine gi_con ?_ | refine gi_bip (Nat.le_of_ble_eq_true rfl) ?_ | refine gi_sip (Nat.le_of_ble_eq_true rfl) ?_ | refine gi_ldc ?_ | refine gi_add ?_ | refine gi_inc rfl ?_ | refine gi_sub (by omega) ?_ | refine gi_mul ?_ | refine go_nx rfl ?_)
      refine gm_gs hm rfl ?_
      repeat (first | refine gi_con ?_ | refine gi_bip (Nat.le_of_ble_eq_true rfl) ?_ | refine gi_sip (Nat.le_of_ble_eq_true rfl) ?_ | refine gi_ldc ?_ | refine gi_add ?_ | refine gi_inc rfl ?_ | refine gi_sub (by omega) ?_ | refine gi_mul ?_ | refine go_nx rfl ?_)
      refine gm_ld hm (by omega) ?_
      rw [hw _ hin]
      have hBi := hR (b + (p + 1 + i))
      rw [hw _ hin] at hBi
      refine gs_ne hBi (fun c2 => ?_) (fun c2 => ?_)
      · rw [show q_isw B (p + 1) e T.length (fun i => T.getD i 0) = false from by
          rw [Bool.eq_false_iff]
          intro q
          have q1 := (q_isw_iff.mp q).1
          exact c2 (by rw [show p + 1 + i = e by omega]; exact h0)] at hq
        repeat (first | refine gi_con ?_ | refine gi_bip (Nat.le_of_ble_eq_true rfl) ?_ | refine gi_sip (Nat.le_of_ble_eq_true rfl) ?_ | refine gi_ldc ?_ | refine gi_add ?_ | refine gi_inc rfl ?_ | refine gi_sub (by omega) ?_ | refine gi_mul ?_ | refine go_nx rfl ?_)
        refine go_jp rfl ?_
        refine go_rt rfl ?_
        exact hq
      · rw [show q_isw B (p + 1) e T.length (fun i => T.getD i 0) = true from by
          rw [q_isw_iff]
          refine ⟨?_, fun j hj2 => hj j (by omega)⟩
          by_cases h5 : p + 1 + i < e
          · exact absurd c2 (hn _ (by omega) h5)
          · omega] at hq
        repeat (first | refine gi_con ?_ | refine gi_bip (Nat.le_of_ble_eq_true rfl) ?_ | refine gi_sip (Nat.le_of_ble_eq_true rfl) ?_ | refine gi_ldc ?_ | refine gi_add ?_ | refine gi_inc rfl ?_ | refine gi_sub (by omega) ?_ | refine gi_mul ?_ | refine go_nx rfl ?_)
        refine go_jp rfl ?_
        refine go_rt rfl ?_
        exact hq
    | cons u U ih =>
      intro i hi hil hj
      have hlt : i < T.length := by
        have := congrArg List.length hi
        rw [List.length_drop, List.length_cons] at this
        omega
      have hgi : T.getD i 0 = u ∧ T.drop (i + 1) = U := by
        rw [List.drop_eq_getElem_cons hlt] at hi
        rw [List.getD_eq_getElem?_getD, List.getElem?_eq_getElem hlt]
        exact ⟨(List.cons.inj hi).1, (List.cons.inj hi).2⟩
      have hin := inn i hil hj
      have hu := nz i hlt
      rw [hgi.1] at hu
      have hUT : ∀ c ∈ U, c < 256 := by
        intro c hc
        rw [← hgi.2] at hc
        exact (hT c (List.mem_of_mem_drop hc)).2
      have hen := q_enc_lt U hUT
      have hUl : U.length ≤ 6 := by
        have := congrArg List.length hgi.2
        rw [List.length_drop] at this
        omega
      have hen2 : q_enc U < 256 ^ 6 := Nat.lt_of_lt_of_le hen (Nat.pow_le_pow_right (by decide) hUl)
      have he2 : q_enc (u :: U) = u + 256 * q_enc U := rfl
      have hpos : 0 < q_enc (u :: U) := by omega
      have hsm : q_enc (u :: U) < 2 ^ 60 := by omega
      have hBi := hR (b + (p + 1 + i))
      rw [hw _ hin] at hBi
      repeat (first | refine gi_con ?_ | refine gi_bip (Nat.le_of_ble_eq_true rfl) ?_ | refine gi_sip (Nat.le_of_ble_eq_true rfl) ?_ | refine gi_ldc ?_ | refine gi_add ?_ | refine gi_inc rfl ?_ | refine gi_sub (by omega) ?_ | refine gi_mul ?_ | refine go_nx rfl ?_)
      refine gl_le (fun c => absurd ((pk_lLE (by omega) (by omega)).mp c) (by omega)) (fun c => ?_)
      repeat (first | refine gi_con ?_ | refine gi_bip (Nat.le_of_ble_eq_true rfl) ?_ | refine gi_sip (Nat.le_of_ble_eq_true rfl) ?_ | refine gi_ldc ?_ | refine gi_add ?_ | refine gi_inc rfl ?_ | refine gi_sub (by omega) ?_ | refine gi_mul ?_ | refine go_nx rfl ?_)
      refine go_step ?_
      refine g_callV (by decide) (by decide) (Nat.le_of_ble_eq_true rfl) (Nat.le_of_ble_eq_true rfl) (mSt_rcv hm) (by omega) (Nat.le_of_ble_eq_true rfl) rfl ?_
      refine sp_mat hm (by omega) ?_
      rw [hw _ hin]
      refine go_nx rfl ?_
      refine go_nx rfl ?_
      refine go_nx rfl ?_
      refine go_nx rfl ?_
      show mm_Go E d 131 _ _ [.int ((lN (q_enc (u :: U)) &&& Int64.ofNat 255).toInt32), .int (nI (B (p + 1 + i)))] h Q
      rw [lN_a255 (by omega), show q_enc (u :: U) % 256 = u by omega]
      first | refine gb_lt (by omega) (by omega) (fun c2 => ?_) (fun c2 => ?_) | refine gb_ge (by omega) (by omega) (fun c2 => ?_) (fun c2 => ?_) | refine gb_gt (by omega) (by omega) (fun c2 => ?_) (fun c2 => ?_) | refine gb_le (by omega) (by omega) (fun c2 => ?_) (fun c2 => ?_) | refine gb_eq (by omega) (by omega) (fun c2 => ?_) (fun c2 => ?_) | refine gb_ne (by omega) (by omega) (fun c2 => ?_) (fun c2 => ?_)
      · repeat (first | refine gi_con ?_ | refine gi_bip (Nat.le_of_ble_eq_true rfl) ?_ | refine gi_sip (Nat.le_of_ble_eq_true rfl) ?_ | refine gi_ldc ?_ | refine gi_add ?_ | refine gi_inc rfl ?_ | refine gi_sub (by omega) ?_ | refine gi_mul ?_ | refine go_nx rfl ?_)
        rw [lN_shr8 (a := q_enc (u :: U)) (by omega), show q_enc (u :: U) / 256 = q_enc U by omega]
        refine go_jp rfl ?_
        rw [show b + (p + 1 + i) + 1 = b + (p + 1 + (i + 1)) by omega]
        refine ih (i + 1) hgi.2 (by omega) (fun j hj2 => ?_)
        by_cases hji : j = i
        · rw [hji, hgi.1]; exact c2
        · exact hj j (by omega)
      · rw [show q_isw B (p + 1) e T.length (fun i => T.getD i 0) = false from by
          rw [Bool.eq_false_iff]
          intro q
          exact c2 (((q_isw_iff.mp q).2 i hlt).trans hgi.1)] at hq
        repeat (first | refine gi_con ?_ | refine gi_bip (Nat.le_of_ble_eq_true rfl) ?_ | refine gi_sip (Nat.le_of_ble_eq_true rfl) ?_ | refine gi_ldc ?_ | refine gi_add ?_ | refine gi_inc rfl ?_ | refine gi_sub (by omega) ?_ | refine gi_mul ?_ | refine go_nx rfl ?_)
        refine go_rt rfl ?_
        exact hq
  repeat (first | refine gi_con ?_ | refine gi_bip (Nat.le_of_ble_eq_true rfl) ?_ | refine gi_sip (Nat.le_of_ble_eq_true rfl) ?_ | refine gi_ldc ?_ | refine gi_add ?_ | refine gi_inc rfl ?_ | refine gi_sub (by omega) ?_ | refine gi_mul ?_ | refine go_nx rfl ?_)
  refine go_jp rfl ?_
  rw [show b + p + 1 = b + (p + 1 + 0) by omega]
  exact loop T 0 rfl (by omega) (fun j hj => by omega)
/-- the zero behind a place -/
def q_z (B : Nat → Nat) : Nat → Nat → Nat
  | 0, k => k
  | f + 1, k => if B k = 0 then k else q_z B f (k + 1)
theorem q_z_at {B : Nat → Nat} : ∀ (f k e : Nat), k ≤ e → e < k + f → B e = 0 → (∀ j, k ≤ j → j < e → B j ≠ 0) → q_z B f k = e := by
  intro f
  induction f with
  | zero => intro k e h1 h2; omega
  | succ f ih =>
    intro k e h1 h2 h3 h4
    unfold q_z
    by_cases h : k = e
    · rw [if_pos (by rw [h]; exact h3)]; exact h
    · rw [if_neg (h4 k (by omega) (by omega))]
      exact ih (k + 1) e (by omega) (by omega) h3 (fun j h5 h6 => h4 j (by omega) h6)
theorem q_z_is {B : Nat → Nat} : ∀ (f k e : Nat), k ≤ e → e < k + f → B e = 0 → k ≤ q_z B f k ∧ q_z B f k ≤ e ∧ B (q_z B f k) = 0 ∧ ∀ j, k ≤ j → j < q_z B f k → B j ≠ 0 := by
  intro f
  induction f with
  | zero => intro k e h1 h2; omega
  | succ f ih =>
    intro k e h1 h2 h3
    unfold q_z
    by_cases h : B k = 0
    · rw [if_pos h]
      exact ⟨Nat.le_refl _, h1, h, fun j h5 h6 => by omega⟩
    · rw [if_neg h]
      have hke : k ≠ e := fun q => h (by rw [q]; exact h3)
      obtain ⟨a1, a2, a3, a4⟩ := ih (k + 1) e (by omega) (by omega) h3
      refine ⟨by omega, a2, a3, fun j h5 h6 => ?_⟩
      by_cases hj : j = k
      · rw [hj]; exact h
      · exact a4 j (by omega) h6
/-- bytes of a row: below 256, none behind n -/
def q_row (B : Nat → Nat) (n : Nat) : Prop := n ≤ 2000 ∧ (∀ j, B j < 256) ∧ ∀ j, n ≤ j → B j = 0
/-- where the name of the element at p ends -/
def q_ne (B : Nat → Nat) (p : Nat) : Nat := q_z B 2002 (p + 1)
theorem q_ne_is {B : Nat → Nat} {n p : Nat} (hr : q_row B n) (hp : p ≤ 2000) : p + 1 ≤ q_ne B p ∧ B (q_ne B p) = 0 ∧ ∀ j, p + 1 ≤ j → j < q_ne B p → B j ≠ 0 := by
  obtain ⟨a1, -, a3, a4⟩ := q_z_is 2002 (p + 1) (max n (p + 1)) (by omega) (by have := hr.1; omega) (hr.2.2 _ (by omega))
  exact ⟨a1, a3, a4⟩
theorem q_ne_le {B : Nat → Nat} {n p : Nat} (hr : q_row B n) (hp : p + 1 ≤ n) : q_ne B p ≤ n := (q_z_is 2002 (p + 1) n hp (by have := hr.1; omega) (hr.2.2 n (Nat.le_refl _))).2.1
