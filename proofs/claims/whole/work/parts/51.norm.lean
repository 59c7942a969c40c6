/-! THE SMALL MACHINE, an instruction at a time, numbers kept as nI -/
theorem if_cg {c e : Prop} [Decidable c] [Decidable e] {α : Type} {x y : α} (hc : c ↔ e) : (if c then x else y) = if e then x else y := by
  by_cases h : c
  · rw [if_pos h, if_pos (hc.mp h)]
  · rw [if_neg h, if_neg (fun q => h (hc.mpr q))]
section GO
variable {E : mmE} {d m pc idx : Nat} {is : List mmI} {L L' S S' : List Value} {h h' : mmH} {Q : Option Value → mmH → Prop} {ex : List Nat}
theorem go_nx {i : mmI} (hs : mm_step E L S h i.2.1 i.2.2 = mm_nx L' S' h') (hg : mm_Go E d m is L' S' h' Q) : mm_Go E d m (i :: is) L S h Q := go_step (by rw [hs]; exact hg)
theorem go_jp {i : mmI} {b : Nat} (hs : mm_step E L S h i.2.1 i.2.2 = mm_jp b S') (hg : mm_Go E d m (mm_blk m b) L S' h Q) : mm_Go E d m (i :: is) L S h Q := go_step (by rw [hs]; exact fun _ => hg)
theorem go_rt {i : mmI} {v : Option Value} (hs : mm_step E L S h i.2.1 i.2.2 = mm_rt v) (hg : Q v h) : mm_Go E d m (i :: is) L S h Q := go_step (by rw [hs]; exact fun _ => hg)
theorem go_br {i : mmI} {c : Bool} {b : Nat} (hs : mm_step E L S h i.2.1 i.2.2 = mm_br c b S') (h1 : c = true → mm_Go E d m (mm_blk m b) L S' h Q) (h2 : c = false → mm_Go E d m is L S' h Q) : mm_Go E d m (i :: is) L S h Q := go_step (by rw [hs]; exact ⟨h1, h2⟩)
theorem ni_ofInt (k : Nat) : Int32.ofInt (Int.ofNat k) = nI k := Int32.toInt_inj.mp (by
  rw [nI, Int32.toInt_ofInt, Int32.toInt_ofNat']
  rfl)
theorem ni_b8 : ∀ k, k < 128 → (Int8.ofInt (Int.ofNat k)).toInt32 = nI k := by decide +kernel
theorem ni_b16 {k : Nat} (hk : k < 32768) : (Int16.ofInt (Int.ofNat k)).toInt32 = nI k := Int32.toInt_inj.mp (by
  rw [Int16.toInt_toInt32, nI_toInt (by omega), Int16.toInt_ofInt_of_le (by show -32768 ≤ (k : Int); omega) (by show (k : Int) < 32768; omega)]
  rfl)
theorem gi_con {k : Nat} (hg : mm_Go E d m is L (.int (nI (@OfNat.ofNat Nat k (instOfNatNat k))) :: S) h Q) : mm_Go E d m ((pc, .iconst (Int.ofNat k), ex) :: is) L S h Q := go_nx (by
  show mm_nx L (.int (Int32.ofInt (Int.ofNat k)) :: S) h = _
  rw [ni_ofInt]
  rfl) hg
theorem gi_bip {k : Nat} (hk : k < 128) (hg : mm_Go E d m is L (.int (nI (@OfNat.ofNat Nat k (instOfNatNat k))) :: S) h Q) : mm_Go E d m ((pc, .bipush (Int.ofNat k), ex) :: is) L S h Q := go_nx (by
  show mm_nx L (.int (Int8.ofInt (Int.ofNat k)).toInt32 :: S) h = _
  rw [ni_b8 k hk]
  rfl) hg
theorem gi_sip {k : Nat} (hk : k < 32768) (hg : mm_Go E d m is L (.int (nI (@OfNat.ofNat Nat k (instOfNatNat k))) :: S) h Q) : mm_Go E d m ((pc, .sipush (Int.ofNat k), ex) :: is) L S h Q := go_nx (by
  show mm_nx L (.int (Int16.ofInt (Int.ofNat k)).toInt32 :: S) h = _
  rw [ni_b16 hk]
  rfl) hg
theorem gi_ldc {k j : Nat} (hg : mm_Go E d m is L (.int (nI k) :: S) h Q) : mm_Go E d m ((pc, .ldc idx, [0, k, j]) :: is) L S h Q := go_nx rfl hg
theorem gi_add {x y : Nat} (hg : mm_Go E d m is L (.int (nI (x + y)) :: S) h Q) : mm_Go E d m ((pc, .iadd, ex) :: is) L (.int (nI y) :: .int (nI x) :: S) h Q := go_nx (by
  show mm_nx L (.int (nI x + nI y) :: S) h = _
  rw [nI_add]) hg
theorem gi_mul {x y : Nat} (hg : mm_Go E d m is L (.int (nI (x * y)) :: S) h Q) : mm_Go E d m ((pc, .imul, ex) :: is) L (.int (nI y) :: .int (nI x) :: S) h Q := go_nx (by
  show mm_nx L (.int (nI x * nI y) :: S) h = _
  rw [pk_mul]) hg
theorem gi_sub {x y : Nat} (hxy : y ≤ x) (hg : mm_Go E d m is L (.int (nI (x - y)) :: S) h Q) : mm_Go E d m ((pc, .isub, ex) :: is) L (.int (nI y) :: .int (nI x) :: S) h Q := go_nx (by
  show mm_nx L (.int (nI x - nI y) :: S) h = _
  rw [pk_sub hxy]) hg
theorem gi_inc {i k x : Nat} (hL : L[i]? = some (.int (nI x))) (hg : mm_Go E d m is (mm_st1 L i (.int (nI (x + @OfNat.ofNat Nat k (instOfNatNat k))))) S h Q) : mm_Go E d m ((pc, .iinc i (Int.ofNat k), ex) :: is) L S h Q := go_nx (by
  show (match L[i]? with
    | some (.int x) => mm_nx (mm_st1 L i (.int (x + Int32.ofInt (Int.ofNat k)))) S h
    | _ => mm_bad) = _
  rw [hL, ni_ofInt, ← nI_add]
  rfl) hg
section BR
variable {x y : Nat} {off : Int}
theorem gb_lt (hx : x < 2 ^ 31) (hy : y < 2 ^ 31) (h1 : x < y → mm_Go E d m (mm_blk m (mm_k0 ex)) L S h Q) (h2 : y ≤ x → mm_Go E d m is L S h Q) : mm_Go E d m ((pc, .if_icmp .lt off, ex) :: is) L (.int (nI y) :: .int (nI x) :: S) h Q :=
  go_br (c := decide (nI x < nI y)) rfl (fun c => h1 ((nI_ltI hx hy).mp (of_decide_eq_true c))) (fun c => h2 (Nat.not_lt.mp (fun q => of_decide_eq_false c ((nI_ltI hx hy).mpr q))))
theorem gb_ge (hx : x < 2 ^ 31) (hy : y < 2 ^ 31) (h1 : y ≤ x → mm_Go E d m (mm_blk m (mm_k0 ex)) L S h Q) (h2 : x < y → mm_Go E d m is L S h Q) : mm_Go E d m ((pc, .if_icmp .ge off, ex) :: is) L (.int (nI y) :: .int (nI x) :: S) h Q :=
  go_br (c := decide (nI y ≤ nI x)) rfl (fun c => h1 ((nI_leI hy hx).mp (of_decide_eq_true c))) (fun c => h2 (Nat.not_le.mp (fun q => of_decide_eq_false c ((nI_leI hy hx).mpr q))))
theorem gb_gt (hx : x < 2 ^ 31) (hy : y < 2 ^ 31) (h1 : y < x → mm_Go E d m (mm_blk m (mm_k0 ex)) L S h Q) (h2 : x ≤ y → mm_Go E d m is L S h Q) : mm_Go E d m ((pc, .if_icmp .gt off, ex) :: is) L (.int (nI y) :: .int (nI x) :: S) h Q :=
  go_br (c := decide (nI y < nI x)) rfl (fun c => h1 ((nI_ltI hy hx).mp (of_decide_eq_true c))) (fun c => h2 (Nat.not_lt.mp (fun q => of_decide_eq_false c ((nI_ltI hy hx).mpr q))))
theorem gb_le (hx : x < 2 ^ 31) (hy : y < 2 ^ 31) (h1 : x ≤ y → mm_Go E d m (mm_blk m (mm_k0 ex)) L S h Q) (h2 : y < x → mm_Go E d m is L S h Q) : mm_Go E d m ((pc, .if_icmp .le off, ex) :: is) L (.int (nI y) :: .int (nI x) :: S) h Q :=
  go_br (c := decide (nI x ≤ nI y)) rfl (fun c => h1 ((nI_leI hx hy).mp (of_decide_eq_true c))) (fun c => h2 (Nat.not_le.mp (fun q => of_decide_eq_false c ((nI_leI hx hy).mpr q))))
theorem gb_eq (hx : x < 2 ^ 31) (hy : y < 2 ^ 31) (h1 : x = y → mm_Go E d m (mm_blk m (mm_k0 ex)) L S h Q) (h2 : x ≠ y → mm_Go E d m is L S h Q) : mm_Go E d m ((pc, .if_icmp .eq off, ex) :: is) L (.int (nI y) :: .int (nI x) :: S) h Q :=
  go_br (c := decide (nI x = nI y)) rfl (fun c => h1 ((nI_eq hx hy).mp (of_decide_eq_true c))) (fun c => h2 (fun q => of_decide_eq_false c ((nI_eq hx hy).mpr q)))
theorem gb_ne (hx : x < 2 ^ 31) (hy : y < 2 ^ 31) (h1 : x ≠ y → mm_Go E d m (mm_blk m (mm_k0 ex)) L S h Q) (h2 : x = y → mm_Go E d m is L S h Q) : mm_Go E d m ((pc, .if_icmp .ne off, ex) :: is) L (.int (nI y) :: .int (nI x) :: S) h Q :=
  go_br (c := decide (¬ nI x = nI y)) rfl (fun c => h1 (fun q => of_decide_eq_true c ((nI_eq hx hy).mpr q))) (fun c => h2 ((nI_eq hx hy).mp (Classical.not_not.mp (of_decide_eq_false c))))
theorem gz_eq (hx : x < 2 ^ 31) (h1 : x = 0 → mm_Go E d m (mm_blk m (mm_k0 ex)) L S h Q) (h2 : 0 < x → mm_Go E d m is L S h Q) : mm_Go E d m ((pc, .ifCond .eq off, ex) :: is) L (.int (nI x) :: S) h Q :=
  go_br (c := decide (nI x = nI 0)) rfl (fun c => h1 ((nI_eq hx (by omega)).mp (of_decide_eq_true c))) (fun c => h2 (Nat.pos_of_ne_zero (fun q => of_decide_eq_false c ((nI_eq hx (by omega)).mpr q))))
theorem gz_ne (hx : x < 2 ^ 31) (h1 : 0 < x → mm_Go E d m (mm_blk m (mm_k0 ex)) L S h Q) (h2 : x = 0 → mm_Go E d m is L S h Q) : mm_Go E d m ((pc, .ifCond .ne off, ex) :: is) L (.int (nI x) :: S) h Q :=
  go_br (c := decide (¬ nI x = nI 0)) rfl (fun c => h1 (Nat.pos_of_ne_zero (fun q => of_decide_eq_true c ((nI_eq hx (by omega)).mpr q)))) (fun c => h2 ((nI_eq hx (by omega)).mp (Classical.not_not.mp (of_decide_eq_false c))))
theorem gz_le (hx : x < 2 ^ 31) (h1 : x = 0 → mm_Go E d m (mm_blk m (mm_k0 ex)) L S h Q) (h2 : 0 < x → mm_Go E d m is L S h Q) : mm_Go E d m ((pc, .ifCond .le off, ex) :: is) L (.int (nI x) :: S) h Q :=
  go_br (c := decide (nI x ≤ nI 0)) rfl (fun c => h1 (Nat.le_zero.mp ((nI_leI hx (by omega)).mp (of_decide_eq_true c)))) (fun c => h2 (Nat.pos_of_ne_zero (fun q => of_decide_eq_false c ((nI_leI hx (by omega)).mpr (by omega)))))
theorem gz_gt (hx : x < 2 ^ 31) (h1 : 0 < x → mm_Go E d m (mm_blk m (mm_k0 ex)) L S h Q) (h2 : x = 0 → mm_Go E d m is L S h Q) : mm_Go E d m ((pc, .ifCond .gt off, ex) :: is) L (.int (nI x) :: S) h Q :=
  go_br (c := decide (nI 0 < nI x)) rfl (fun c => h1 ((nI_ltI (by omega) hx).mp (of_decide_eq_true c))) (fun c => h2 (Nat.le_zero.mp (Nat.not_lt.mp (fun q => of_decide_eq_false c ((nI_ltI (by omega) hx).mpr q)))))
theorem gz_lt (hx : x < 2 ^ 31) (h1 : False → mm_Go E d m (mm_blk m (mm_k0 ex)) L S h Q) (h2 : True → mm_Go E d m is L S h Q) : mm_Go E d m ((pc, .ifCond .lt off, ex) :: is) L (.int (nI x) :: S) h Q :=
  go_br (c := decide (nI x < nI 0)) rfl (fun c => h1 (absurd ((nI_ltI hx (by omega)).mp (of_decide_eq_true c)) (by omega))) (fun _ => h2 trivial)
theorem gz_ge (hx : x < 2 ^ 31) (h1 : True → mm_Go E d m (mm_blk m (mm_k0 ex)) L S h Q) (h2 : False → mm_Go E d m is L S h Q) : mm_Go E d m ((pc, .ifCond .ge off, ex) :: is) L (.int (nI x) :: S) h Q :=
  go_br (c := decide (nI 0 ≤ nI x)) rfl (fun _ => h1 trivial) (fun c => h2 (of_decide_eq_false c ((nI_leI (by omega) hx).mpr (by omega))))
theorem gt_eq {b : Bool} (h1 : b = false → mm_Go E d m (mm_blk m (mm_k0 ex)) L S h Q) (h2 : b = true → mm_Go E d m is L S h Q) : mm_Go E d m ((pc, .ifCond .eq off, ex) :: is) L (.int (q_t b) :: S) h Q :=
  go_br (c := decide (q_t b = 0)) rfl (fun c => h1 (q_t_ne.mp (of_decide_eq_true c))) (fun c => h2 (by
    cases b with
    | false => exact absurd rfl (of_decide_eq_false c)
    | true => rfl))
theorem gt_ne {b : Bool} (h1 : b = true → mm_Go E d m (mm_blk m (mm_k0 ex)) L S h Q) (h2 : b = false → mm_Go E d m is L S h Q) : mm_Go E d m ((pc, .ifCond .ne off, ex) :: is) L (.int (q_t b) :: S) h Q :=
  go_br (c := decide (¬ q_t b = 0)) rfl (fun c => h1 (by
    cases b with
    | false => exact absurd rfl (of_decide_eq_true c)
    | true => rfl)) (fun c => h2 (q_t_ne.mp (Classical.not_not.mp (of_decide_eq_false c))))
/-- bytes with sign -/
theorem gs_eq (hx : x < 256) (h1 : x = 0 → mm_Go E d m (mm_blk m (mm_k0 ex)) L S h Q) (h2 : x ≠ 0 → mm_Go E d m is L S h Q) : mm_Go E d m ((pc, .ifCond .eq off, ex) :: is) L (.int (sb_b x) :: S) h Q :=
  go_br (c := decide (sb_b x = 0)) rfl (fun c => h1 ((sb_0 x hx).mp (of_decide_eq_true c))) (fun c => h2 (fun q => of_decide_eq_false c ((sb_0 x hx).mpr q)))
theorem gs_ne (hx : x < 256) (h1 : x ≠ 0 → mm_Go E d m (mm_blk m (mm_k0 ex)) L S h Q) (h2 : x = 0 → mm_Go E d m is L S h Q) : mm_Go E d m ((pc, .ifCond .ne off, ex) :: is) L (.int (sb_b x) :: S) h Q :=
  go_br (c := decide (¬ sb_b x = 0)) rfl (fun c => h1 (fun q => of_decide_eq_true c ((sb_0 x hx).mpr q))) (fun c => h2 ((sb_0 x hx).mp (Classical.not_not.mp (of_decide_eq_false c))))
theorem sb_inj {x y : Nat} (hx : x < 256) (hy : y < 256) : sb_b x = sb_b y ↔ x = y := ⟨fun q => by
  have := (sb_byte x hx).1
  rw [q, (sb_byte y hy).1] at this
  exact ((nI_eq (by omega) (by omega)).mp this).symm, fun q => by rw [q]⟩
theorem gs_bne (hx : x < 256) (hy : y < 256) (h1 : x ≠ y → mm_Go E d m (mm_blk m (mm_k0 ex)) L S h Q) (h2 : x = y → mm_Go E d m is L S h Q) : mm_Go E d m ((pc, .if_icmp .ne off, ex) :: is) L (.int (sb_b y) :: .int (sb_b x) :: S) h Q :=
  go_br (c := decide (¬ sb_b x = sb_b y)) rfl (fun c => h1 (fun q => of_decide_eq_true c ((sb_inj hx hy).mpr q))) (fun c => h2 ((sb_inj hx hy).mp (Classical.not_not.mp (of_decide_eq_false c))))
theorem gs_beq (hx : x < 256) (hy : y < 256) (h1 : x = y → mm_Go E d m (mm_blk m (mm_k0 ex)) L S h Q) (h2 : x ≠ y → mm_Go E d m is L S h Q) : mm_Go E d m ((pc, .if_icmp .eq off, ex) :: is) L (.int (sb_b y) :: .int (sb_b x) :: S) h Q :=
  go_br (c := decide (sb_b x = sb_b y)) rfl (fun c => h1 ((sb_inj hx hy).mp (of_decide_eq_true c))) (fun c => h2 (fun q => of_decide_eq_false c ((sb_inj hx hy).mpr q)))
end BR
/-- a field -/
theorem gf_get {a : Nat} {fs : List Value} (v : Value) (ha : h.2.2 a = some (.inr (mm_k0 ex, fs))) (h99 : mm_k0 ex ≠ 99) (hv : fs[mm_k1 ex]? = some v) (hg : mm_Go E d m is L (v :: S) h Q) : mm_Go E d m ((pc, .getfield idx, ex) :: is) L (.ref a :: S) h Q := go_step (g_getf v ha h99 hv hg)
/-- the reference's store -/
theorem gm_ld {o st k : Nat} {R : Nat → Nat} (hm : mSt h o st R) (hk : k < 22100) (hg : mm_Go E d m is L (.int (sb_b (R k)) :: S) h Q) : mm_Go E d m ((pc, .baload, ex) :: is) L (.int (nI k) :: .ref st :: S) h Q := by
  obtain ⟨-, ⟨f, hs, hR⟩, -⟩ := hm
  refine go_step (g_bald (t := 0) (n := 22100) (f := f) (by unfold mm_aI; rw [hs]) (Or.inl rfl) (decide_eq_true (vp_in_nI hk (by decide))) ?_)
  rw [nI_clamp (by omega), hR k hk]
  exact hg
theorem gm_gs {o st : Nat} {R : Nat → Nat} (hm : mSt h o st R) (he : ex.take 2 = [10, 1]) (hg : mm_Go E d m is L (.ref st :: S) h Q) : mm_Go E d m ((pc, .getfield idx, ex) :: is) L (.ref o :: S) h Q := by
  obtain ⟨⟨fs, ho, hf⟩, -⟩ := hm
  have h0 : mm_k0 ex = 10 := by
    match ex, he with
    | _ :: _ :: _, he => exact (List.cons.inj he).1
  have h1 : mm_k1 ex = 1 := by
    match ex, he with
    | _ :: _ :: _, he => exact (List.cons.inj (List.cons.inj he).2).1
  exact go_step (g_getf (.ref st) (by rw [h0]; exact ho) (by rw [h0]; decide) (by rw [h1]; exact hf) hg)
end GO
