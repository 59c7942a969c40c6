/-! THE CLASS: Clause, Filter.clauseOf -/
section C
variable {E : mmE} {d : Nat} {h h' h0 : mmH} {Q : Option Value → mmH → Prop} {B N O : Nat → Nat} {row n : Nat} {own own' own0 : Nat → Nat} {M : Nat → Prop} {ob : Nat → Nat → Int32} {P : Nat → Prop}
section K8
variable {c : Nat} {fs fs' : List Value}
theorem ne_8 {b : Nat} {x : mmC} (hc : h.2.2 c = some (.inr (8, fs))) (hb : h.2.2 b = some x) (hx : ∀ fs, x ≠ .inr (8, fs)) : b ≠ c := fun q => by
  rw [q, hc] at hb
  cases hb
  exact hx _ rfl
theorem gL_8 {a cap : Nat} {l : List Nat} (hc : h.2.2 c = some (.inr (8, fs))) (ha : gL E h own a cap l) : gL E (mm_set h c (.inr (8, fs'))) own a cap l := by
  obtain ⟨ed, ⟨⟨mc, hm⟩, harr, hN⟩, ho⟩ := ha
  refine ⟨ed, ⟨⟨mc, by rw [hs_ne (ne_8 hc hm (fun _ q => by cases q))]; exact hm⟩, ?_, hN⟩, ho⟩
  rcases harr with q | ⟨n1, n2, f, n3, n4⟩
  · exact Or.inl q
  · exact Or.inr ⟨n1, n2, f, by rw [hs_ne (ne_8 hc n3 (fun _ q => by cases q))]; exact n3, n4⟩
theorem bR_8 {l : List Nat} {R : List qR} (hc : h.2.2 c = some (.inr (8, fs))) (ha : bR h N O l R) : bR (mm_set h c (.inr (8, fs'))) N O l R := ⟨ha.1, fun k hk => iAt_s (fun b ci fs hb hcc => hs_ne (ne_8 hc hb (fun _ q => by cases q; rcases hcc with q | q <;> cases q))) (ha.2 k hk)⟩
theorem nB_8 {k v : Nat} (hc : h.2.2 c = some (.inr (8, fs))) (ha : nBox h row B N O k v) : nBox (mm_set h c (.inr (8, fs'))) row B N O k v := nBox_sub (fun b c hb => hs_ne (ne_8 hc hb (fun _ q => by cases q))) ha
theorem bRow_8 (hc : h.2.2 c = some (.inr (8, fs))) (ha : bRow h row n B) : bRow (mm_set h c (.inr (8, fs'))) row n B := bRow_eq ha (hs_ne (bRow_ne ha hc))
theorem wOk_8 (hc : h.2.2 c = some (.inr (8, fs))) (hw : wOk E h own) : wOk E (mm_set h c (.inr (8, fs'))) own := ⟨hOk_set2 hw.1 hc, hw.2⟩
theorem lFr_8 {x : mmC} (hf : lFr h0 h own0 own M) (hc : h0.1 ≤ c) : lFr h0 (mm_set h c x) own0 own M := ⟨hf.1, fun b hb => ⟨(hf.2 b hb).1, fun c1 c2 => by rw [hs_ne (by omega)]; exact (hf.2 b hb).2 c1 c2⟩⟩
end K8
theorem sp_clinit {nd : Nat} (hd : 3 ≤ d) (hE : sE E) (hw : wOk E h own) (hq : ∀ h', h'.2.2 h.1 = some (.inr (8, [.ref nd, .ref (h.1 + 1), .null, .int 0])) → gL E h' own (h.1 + 1) 0 [] → wOk E h' own → lFr h h' own own (fun _ => False) → h'.1 = h.1 + 2 → h'.2.1 = h.2.1 + 7 → Q none h') : mm_Go E d 171 (mm_blk 171 0) [.ref h.1, .ref nd] [] (mm_new h 4 (.inr (8, [.null, .null, .null, .int 0]))) Q := by
  have w1 := wOk_new (n := 4) (c := .inr (8, [.null, .null, .null, .int 0])) hw
  have c1 : (mm_new h 4 (.inr (8, [.null, .null, .null, .int 0]))).2.2 h.1 = some (.inr (8, [.null, .null, .null, .int 0])) := hn_at
  have f1 : lFr h (mm_new h 4 (.inr (8, [.null, .null, .null, .int 0]))) own own (fun _ => False) := lFr_new
  have s1 : (mm_new h 4 (.inr (8, [.null, .null, .null, .int 0]))).1 = h.1 + 1 := rfl
  have t1 : (mm_new h 4 (.inr (8, [.null, .null, .null, .int 0]))).2.1 = h.2.1 + 4 := rfl
  generalize mm_new h 4 (.inr (8, [.null, .null, .null, .int 0])) = h1 at w1 c1 f1 s1 t1 ⊢
  refine go_nx rfl ?_
  refine go_nx rfl ?_
  refine go_nx rfl ?_
  refine gc_n3 rfl ?_
  repeat (first | refine gc_n3 rfl ?_ | refine gc_n6 rfl ?_ | refine gc_n7 rfl ?_ | refine gc_n8 rfl ?_ | refine gc_n9 rfl ?_ | refine gi_con ?_ | refine gi_bip (Nat.le_of_ble_eq_true rfl) ?_ | refine gi_sip (Nat.le_of_ble_eq_true rfl) ?_ | refine gi_ldc ?_ | refine gi_add ?_ | refine gi_inc rfl ?_ | refine gi_sub (by omega) ?_ | refine gi_mul ?_ | refine go_nx rfl ?_)
  refine go_step ?_
  refine g_call (k := 22) rfl (by omega) (Nat.le_of_ble_eq_true rfl) rfl ?_
  refine sp_lnew (by omega) hE w1 (fun h2 k1 k2 k3 k4 k5 => ?_)
  have c2 := lFr_obj k3 w1.1 c1 (by decide)
  rw [c1] at c2
  refine gc_put (fs' := [.null, .ref h1.1, .null, .int 0]) c2 rfl (Nat.le_of_ble_eq_true rfl) rfl rfl ?_
  repeat (first | refine gc_n3 rfl ?_ | refine gc_n6 rfl ?_ | refine gc_n7 rfl ?_ | refine gc_n8 rfl ?_ | refine gc_n9 rfl ?_ | refine gi_con ?_ | refine gi_bip (Nat.le_of_ble_eq_true rfl) ?_ | refine gi_sip (Nat.le_of_ble_eq_true rfl) ?_ | refine gi_ldc ?_ | refine gi_add ?_ | refine gi_inc rfl ?_ | refine gi_sub (by omega) ?_ | refine gi_mul ?_ | refine go_nx rfl ?_)
  refine gc_put (fs' := [.ref nd, .ref h1.1, .null, .int 0]) hs_at rfl (Nat.le_of_ble_eq_true rfl) rfl rfl ?_
  rw [hs_set]
  refine go_rt rfl ?_
  rw [s1] at k1 ⊢
  refine hq _ hs_at (gL_8 c2 k1) (wOk_8 c2 k2) (lFr_8 (lFr_t f1 k3) (Nat.le_refl _)) ?_ ?_
  · show h2.1 = _
    omega
  · show h2.2.1 = _
    omega
theorem sp_clnew {c al b S cb nd ex : Nat} {lb : List Nat} {RB : List qR} (hd : 8 ≤ d) (hE : sE E) (hw : wOk E h own) (hc : h.2.2 c = some (.inr (8, [.ref nd, .ref al, .null, .int 0]))) (hal : gL E h own al 0 []) (hb : gL E h own b cb lb) (hrb : bR h N O lb RB) (hba : b ≠ al) (hlb : lb.length ≤ 10000) (hex : ex ≤ 1)
    (hq : ∀ h' own' ca, gL E h' own' al ca lb → wOk E h' own' → lFr h h' own own' (fun x => x = al) → aRm h h' 0 ca lb.length → Q none (mm_set h' c (.inr (8, [.ref nd, .ref al, .ref b, .int (nI ex)])))) : mm_Go E d 172 (mm_blk 172 0) [.ref c, .ref b, .int (nI ex), .ref S] [] h Q := by
  repeat (first | refine gc_n3 rfl ?_ | refine gc_n6 rfl ?_ | refine gc_n7 rfl ?_ | refine gc_n8 rfl ?_ | refine gc_n9 rfl ?_ | refine gi_con ?_ | refine gi_bip (Nat.le_of_ble_eq_true rfl) ?_ | refine gi_sip (Nat.le_of_ble_eq_true rfl) ?_ | refine gi_ldc ?_ | refine gi_add ?_ | refine gi_inc rfl ?_ | refine gi_sub (by omega) ?_ | refine gi_mul ?_ | refine go_nx rfl ?_)
  refine gf_get _ hc (by decide) rfl ?_
  refine gn_nnN ?_
  repeat (first | refine gc_n3 rfl ?_ | refine gc_n6 rfl ?_ | refine gc_n7 rfl ?_ | refine gc_n8 rfl ?_ | refine gc_n9 rfl ?_ | refine gi_con ?_ | refine gi_bip (Nat.le_of_ble_eq_true rfl) ?_ | refine gi_sip (Nat.le_of_ble_eq_true rfl) ?_ | refine gi_ldc ?_ | refine gi_add ?_ | refine gi_inc rfl ?_ | refine gi_sub (by omega) ?_ | refine gi_mul ?_ | refine go_nx rfl ?_)
  refine gf_get _ hc (by decide) rfl ?_
  refine go_step ?_
  refine g_call (k := 87) rfl (by omega) (Nat.le_of_ble_eq_true rfl) rfl ?_
  refine sp_bcopy (by omega) hE hw hb hal hba (bR_cell hrb) (by omega) hlb (fun h2 own2 ca k1 k2 k3 k4 => ?_)
  have c2 := lFr_obj k3 hw.1 hc (by decide)
  rw [hc] at c2
  repeat (first | refine gc_n3 rfl ?_ | refine gc_n6 rfl ?_ | refine gc_n7 rfl ?_ | refine gc_n8 rfl ?_ | refine gc_n9 rfl ?_ | refine gi_con ?_ | refine gi_bip (Nat.le_of_ble_eq_true rfl) ?_ | refine gi_sip (Nat.le_of_ble_eq_true rfl) ?_ | refine gi_ldc ?_ | refine gi_add ?_ | refine gi_inc rfl ?_ | refine gi_sub (by omega) ?_ | refine gi_mul ?_ | refine go_nx rfl ?_)
  refine go_jp rfl ?_
  repeat (first | refine gc_n3 rfl ?_ | refine gc_n6 rfl ?_ | refine gc_n7 rfl ?_ | refine gc_n8 rfl ?_ | refine gc_n9 rfl ?_ | refine gi_con ?_ | refine gi_bip (Nat.le_of_ble_eq_true rfl) ?_ | refine gi_sip (Nat.le_of_ble_eq_true rfl) ?_ | refine gi_ldc ?_ | refine gi_add ?_ | refine gi_inc rfl ?_ | refine gi_sub (by omega) ?_ | refine gi_mul ?_ | refine go_nx rfl ?_)
  refine gf_get _ c2 (by decide) rfl ?_
  refine gn_nN ?_
  repeat (first | refine gc_n3 rfl ?_ | refine gc_n6 rfl ?_ | refine gc_n7 rfl ?_ | refine gc_n8 rfl ?_ | refine gc_n9 rfl ?_ | refine gi_con ?_ | refine gi_bip (Nat.le_of_ble_eq_true rfl) ?_ | refine gi_sip (Nat.le_of_ble_eq_true rfl) ?_ | refine gi_ldc ?_ | refine gi_add ?_ | refine gi_inc rfl ?_ | refine gi_sub (by omega) ?_ | refine gi_mul ?_ | refine go_nx rfl ?_)
  refine gc_put (fs' := [.ref nd, .ref al, .ref b, .int 0]) c2 rfl (Nat.le_of_ble_eq_true rfl) rfl rfl ?_
  repeat (first | refine gc_n3 rfl ?_ | refine gc_n6 rfl ?_ | refine gc_n7 rfl ?_ | refine gc_n8 rfl ?_ | refine gc_n9 rfl ?_ | refine gi_con ?_ | refine gi_bip (Nat.le_of_ble_eq_true rfl) ?_ | refine gi_sip (Nat.le_of_ble_eq_true rfl) ?_ | refine gi_ldc ?_ | refine gi_add ?_ | refine gi_inc rfl ?_ | refine gi_sub (by omega) ?_ | refine gi_mul ?_ | refine go_nx rfl ?_)
  refine gc_put (fs' := [.ref nd, .ref al, .ref b, .int (nI ex)]) hs_at rfl (Nat.le_of_ble_eq_true rfl) (fit_b hex) rfl ?_
  rw [hs_set]
  repeat (first | refine gc_n3 rfl ?_ | refine gc_n6 rfl ?_ | refine gc_n7 rfl ?_ | refine gc_n8 rfl ?_ | refine gc_n9 rfl ?_ | refine gi_con ?_ | refine gi_bip (Nat.le_of_ble_eq_true rfl) ?_ | refine gi_sip (Nat.le_of_ble_eq_true rfl) ?_ | refine gi_ldc ?_ | refine gi_add ?_ | refine gi_inc rfl ?_ | refine gi_sub (by omega) ?_ | refine gi_mul ?_ | refine go_nx rfl ?_)
  refine go_jp rfl ?_
  refine go_rt rfl ?_
  exact hq h2 own2 ca k1 k2 k3 k4
theorem sp_clmore {c al on b S ca cb cs nd ex : Nat} {x : Bool} {la lb lsp : List Nat} {RA RB : List qR} (hd : 9 ≤ d) (hE : sE E) (hw : wOk E h own) (hO : oIs ob P O) (hc : h.2.2 c = some (.inr (8, [.ref nd, .ref al, .ref on, .int (q_t x)]))) (ha : gL E h own al ca la) (hb : gL E h own b cb lb) (hs : gL E h own S cs lsp) (hAB : al ≠ b) (hAS : al ≠ S) (hBS : b ≠ S) (hra : bR h N O la RA) (hrb : bR h N O lb RB) (sa : rSd P O RA) (sb : rSd P O RB) (hca : ca ≤ 10000) (hcs : cs ≤ 10000) (hla : RA.length ≤ 1000) (hlb : RB.length ≤ 1000) (hex : ex ≤ 1)
    (hq : ∀ h' own' ca' cs' la', gL E h' own' al ca' la' → bR h' N O la' (q_meet ob RA RB) → gL E h' own' S cs' la → wOk E h' own' → lFr h h' own own' (fun b => b = al ∨ b = S) → 5 * h'.1 + ca + cs ≤ 5 * h.1 + ca' + cs' + 10 * RB.length → h'.2.1 + 4 * ca + 4 * cs ≤ h.2.1 + 4 * ca' + 4 * cs' + 4 * RB.length → ca ≤ ca' → cs ≤ cs' → ca' ≤ max ca (2 * (q_meet ob RA RB).length + 10) → cs' ≤ max cs (2 * RA.length + 10) → h.2.1 ≤ h'.2.1 → (x = false ∧ ex = 1 → Q none (mm_set h' c (.inr (8, [.ref nd, .ref al, .ref b, .int (q_t true)])))) ∧ (¬ (x = false ∧ ex = 1) → Q none h')) : mm_Go E d 172 (mm_blk 172 0) [.ref c, .ref b, .int (nI ex), .ref S] [] h Q := by
  repeat (first | refine gc_n3 rfl ?_ | refine gc_n6 rfl ?_ | refine gc_n7 rfl ?_ | refine gc_n8 rfl ?_ | refine gc_n9 rfl ?_ | refine gi_con ?_ | refine gi_bip (Nat.le_of_ble_eq_true rfl) ?_ | refine gi_sip (Nat.le_of_ble_eq_true rfl) ?_ | refine gi_ldc ?_ | refine gi_add ?_ | refine gi_inc rfl ?_ | refine gi_sub (by omega) ?_ | refine gi_mul ?_ | refine go_nx rfl ?_)
  refine gf_get _ hc (by decide) rfl ?_
  refine gn_nnR ?_
  repeat (first | refine gc_n3 rfl ?_ | refine gc_n6 rfl ?_ | refine gc_n7 rfl ?_ | refine gc_n8 rfl ?_ | refine gc_n9 rfl ?_ | refine gi_con ?_ | refine gi_bip (Nat.le_of_ble_eq_true rfl) ?_ | refine gi_sip (Nat.le_of_ble_eq_true rfl) ?_ | refine gi_ldc ?_ | refine gi_add ?_ | refine gi_inc rfl ?_ | refine gi_sub (by omega) ?_ | refine gi_mul ?_ | refine go_nx rfl ?_)
  refine gf_get _ hc (by decide) rfl ?_
  repeat (first | refine gc_n3 rfl ?_ | refine gc_n6 rfl ?_ | refine gc_n7 rfl ?_ | refine gc_n8 rfl ?_ | refine gc_n9 rfl ?_ | refine gi_con ?_ | refine gi_bip (Nat.le_of_ble_eq_true rfl) ?_ | refine gi_sip (Nat.le_of_ble_eq_true rfl) ?_ | refine gi_ldc ?_ | refine gi_add ?_ | refine gi_inc rfl ?_ | refine gi_sub (by omega) ?_ | refine gi_mul ?_ | refine go_nx rfl ?_)
  refine go_step ?_
  refine g_call (k := 86) rfl (by omega) (Nat.le_of_ble_eq_true rfl) rfl ?_
  refine sp_bmeet (by omega) hE hw hO ha hb hs hAB hAS hBS hra hrb sa sb hca hcs hla hlb (fun h2 own2 ca2 cs2 la2 k1 k2 k3 k4 k5 k6 k7 k8 k9 k10 k11 k12 => ?_)
  have c2 := lFr_obj k5 hw.1 hc (by decide)
  rw [hc] at c2
  obtain ⟨q1, q2⟩ := hq h2 own2 ca2 cs2 la2 k1 k2 k3 k4 k5 k6 k7 k8 k9 k10 k11 k12
  repeat (first | refine gc_n3 rfl ?_ | refine gc_n6 rfl ?_ | refine gc_n7 rfl ?_ | refine gc_n8 rfl ?_ | refine gc_n9 rfl ?_ | refine gi_con ?_ | refine gi_bip (Nat.le_of_ble_eq_true rfl) ?_ | refine gi_sip (Nat.le_of_ble_eq_true rfl) ?_ | refine gi_ldc ?_ | refine gi_add ?_ | refine gi_inc rfl ?_ | refine gi_sub (by omega) ?_ | refine gi_mul ?_ | refine go_nx rfl ?_)
  refine go_jp rfl ?_
  repeat (first | refine gc_n3 rfl ?_ | refine gc_n6 rfl ?_ | refine gc_n7 rfl ?_ | refine gc_n8 rfl ?_ | refine gc_n9 rfl ?_ | refine gi_con ?_ | refine gi_bip (Nat.le_of_ble_eq_true rfl) ?_ | refine gi_sip (Nat.le_of_ble_eq_true rfl) ?_ | refine gi_ldc ?_ | refine gi_add ?_ | refine gi_inc rfl ?_ | refine gi_sub (by omega) ?_ | refine gi_mul ?_ | refine go_nx rfl ?_)
  refine gf_get _ c2 (by decide) rfl ?_
  refine gn_nR ?_
  repeat (first | refine gc_n3 rfl ?_ | refine gc_n6 rfl ?_ | refine gc_n7 rfl ?_ | refine gc_n8 rfl ?_ | refine gc_n9 rfl ?_ | refine gi_con ?_ | refine gi_bip (Nat.le_of_ble_eq_true rfl) ?_ | refine gi_sip (Nat.le_of_ble_eq_true rfl) ?_ | refine gi_ldc ?_ | refine gi_add ?_ | refine gi_inc rfl ?_ | refine gi_sub (by omega) ?_ | refine gi_mul ?_ | refine go_nx rfl ?_)
  first | refine gz_eq (by omega) (fun c4 => ?_) (fun c4 => ?_) | refine gz_ne (by omega) (fun c4 => ?_) (fun c4 => ?_) | refine gz_le (by omega) (fun c4 => ?_) (fun c4 => ?_) | refine gz_gt (by omega) (fun c4 => ?_) (fun c4 => ?_) | refine gz_lt (by omega) (fun c4 => ?_) (fun c4 => ?_) | refine gz_ge (by omega) (fun c4 => ?_) (fun c4 => ?_)
  · refine go_rt rfl ?_
    exact q2 (fun q => by omega)
  have h1 : ex = 1 := by omega
  repeat (first | refine gc_n3 rfl ?_ | refine gc_n6 rfl ?_ | refine gc_n7 rfl ?_ | refine gc_n8 rfl ?_ | refine gc_n9 rfl ?_ | refine gi_con ?_ | refine gi_bip (Nat.le_of_ble_eq_true rfl) ?_ | refine gi_sip (Nat.le_of_ble_eq_true rfl) ?_ | refine gi_ldc ?_ | refine gi_add ?_ | refine gi_inc rfl ?_ | refine gi_sub (by omega) ?_ | refine gi_mul ?_ | refine go_nx rfl ?_)
  refine gf_get _ c2 (by decide) rfl ?_
  refine gt_ne (fun c5 => ?_) (fun c5 => ?_)
  · refine go_rt rfl ?_
    exact q2 (fun q => by rw [c5] at q; exact Bool.noConfusion q.1)
  repeat (first | refine gc_n3 rfl ?_ | refine gc_n6 rfl ?_ | refine gc_n7 rfl ?_ | refine gc_n8 rfl ?_ | refine gc_n9 rfl ?_ | refine gi_con ?_ | refine gi_bip (Nat.le_of_ble_eq_true rfl) ?_ | refine gi_sip (Nat.le_of_ble_eq_true rfl) ?_ | refine gi_ldc ?_ | refine gi_add ?_ | refine gi_inc rfl ?_ | refine gi_sub (by omega) ?_ | refine gi_mul ?_ | refine go_nx rfl ?_)
  refine go_jp rfl ?_
  repeat (first | refine gc_n3 rfl ?_ | refine gc_n6 rfl ?_ | refine gc_n7 rfl ?_ | refine gc_n8 rfl ?_ | refine gc_n9 rfl ?_ | refine gi_con ?_ | refine gi_bip (Nat.le_of_ble_eq_true rfl) ?_ | refine gi_sip (Nat.le_of_ble_eq_true rfl) ?_ | refine gi_ldc ?_ | refine gi_add ?_ | refine gi_inc rfl ?_ | refine gi_sub (by omega) ?_ | refine gi_mul ?_ | refine go_nx rfl ?_)
  refine gc_put (fs' := [.ref nd, .ref al, .ref b, .int (q_t x)]) c2 rfl (Nat.le_of_ble_eq_true rfl) rfl rfl ?_
  repeat (first | refine gc_n3 rfl ?_ | refine gc_n6 rfl ?_ | refine gc_n7 rfl ?_ | refine gc_n8 rfl ?_ | refine gc_n9 rfl ?_ | refine gi_con ?_ | refine gi_bip (Nat.le_of_ble_eq_true rfl) ?_ | refine gi_sip (Nat.le_of_ble_eq_true rfl) ?_ | refine gi_ldc ?_ | refine gi_add ?_ | refine gi_inc rfl ?_ | refine gi_sub (by omega) ?_ | refine gi_mul ?_ | refine go_nx rfl ?_)
  refine gc_put (fs' := [.ref nd, .ref al, .ref b, .int (nI ex)]) hs_at rfl (Nat.le_of_ble_eq_true rfl) (fit_b hex) rfl ?_
  rw [hs_set, h1]
  repeat (first | refine gc_n3 rfl ?_ | refine gc_n6 rfl ?_ | refine gc_n7 rfl ?_ | refine gc_n8 rfl ?_ | refine gc_n9 rfl ?_ | refine gi_con ?_ | refine gi_bip (Nat.le_of_ble_eq_true rfl) ?_ | refine gi_sip (Nat.le_of_ble_eq_true rfl) ?_ | refine gi_ldc ?_ | refine gi_add ?_ | refine gi_inc rfl ?_ | refine gi_sub (by omega) ?_ | refine gi_mul ?_ | refine go_nx rfl ?_)
  refine go_jp rfl ?_
  refine go_rt rfl ?_
  exact q1 ⟨c5, h1⟩
/-- an element's name is these bytes -/
def cMt (B : Nat → Nat) (e : Nat) (A : Nat → Nat) (m : Nat) : Bool := decide (q_bytes (fun j => B (e + 1 + j)) (q_ne B e - (e + 1)) A m = 0)
theorem sp_clauseOf {fa cl S cc rx nx fr to : Nat} {X : Nat → Nat} {lc es : List Nat} (hd : 3 ≤ d) (hrow : q_row B n) (hf : h.2.2 fa = some (.inr (9, [.ref cl, .ref S]))) (hl : gL E h own cl cc lc) (hle : lc.length = es.length) (hlen : es.length ≤ 1000) (hcell : ∀ i, i < es.length → ∃ v1 v2 v3, h.2.2 (lc.getD i 0) = some (.inr (8, [.ref (N (es.getD i 0)), v1, v2, v3]))) (hnd : ∀ i, i < es.length → (∃ lim, h.2.2 (N (es.getD i 0)) = some (nFull row B N O lim (es.getD i 0))) ∧ q_ok B n (es.getD i 0)) (hr : bRow h row n B) (hx : bRow h rx nx X) (hft : fr ≤ to) (hto : to ≤ 2000)
    (h0 : (∀ i, i < es.length → cMt B (es.getD i 0) (fun j => X (fr + j)) (to - fr) = false) → Q (some .null) h) (h1 : ∀ i, i < es.length → cMt B (es.getD i 0) (fun j => X (fr + j)) (to - fr) = true → Q (some (.ref (lc.getD i 0))) h) : mm_Go E d 91 (mm_blk 91 0) [.ref fa, .ref rx, .int (nI fr), .int (nI to), mm_un, mm_un] [] h Q := by
  have hn := hrow.1
  have loop : ∀ (m i : Nat) (x5 : Value), m + i = es.length → (∀ j, j < i → cMt B (es.getD j 0) (fun j => X (fr + j)) (to - fr) = false) → mm_Go E d 91 (mm_blk 91 1) [.ref fa, .ref rx, .int (nI fr), .int (nI to), .int (nI i), x5] [] h Q := by
    intro m
    induction m with
    | zero =>
      intro i x5 hm hno
      repeat (first | refine gc_n3 rfl ?_ | refine gc_n6 rfl ?_ | refine gc_n7 rfl ?_ | refine gc_n8 rfl ?_ | refine gc_n9 rfl ?_ | refine gi_con ?_ | refine gi_bip (Nat.le_of_ble_eq_true rfl) ?_ | refine gi_sip (Nat.le_of_ble_eq_true rfl) ?_ | refine gi_ldc ?_ | refine gi_add ?_ | refine gi_inc rfl ?_ | refine gi_sub (by omega) ?_ | refine gi_mul ?_ | refine go_nx rfl ?_)
      refine gf_get _ hf (by decide) rfl ?_
      refine go_step ?_
      refine g_callV (by decide) (by decide) (Nat.le_of_ble_eq_true rfl) (Nat.le_of_ble_eq_true rfl) (gL_rcv hl) (by omega) (Nat.le_of_ble_eq_true rfl) rfl ?_
      refine sp_lsize hl ?_
      rw [hle]
      first | refine gb_lt (by omega) (by omega) (fun c => ?_) (fun c => ?_) | refine gb_ge (by omega) (by omega) (fun c => ?_) (fun c => ?_) | refine gb_gt (by omega) (by omega) (fun c => ?_) (fun c => ?_) | refine gb_le (by omega) (by omega) (fun c => ?_) (fun c => ?_) | refine gb_eq (by omega) (by omega) (fun c => ?_) (fun c => ?_) | refine gb_ne (by omega) (by omega) (fun c => ?_) (fun c => ?_)
      rotate_left
      · omega
      repeat (first | refine gc_n3 rfl ?_ | refine gc_n6 rfl ?_ | refine gc_n7 rfl ?_ | refine gc_n8 rfl ?_ | refine gc_n9 rfl ?_ | refine gi_con ?_ | refine gi_bip (Nat.le_of_ble_eq_true rfl) ?_ | refine gi_sip (Nat.le_of_ble_eq_true rfl) ?_ | refine gi_ldc ?_ | refine gi_add ?_ | refine gi_inc rfl ?_ | refine gi_sub (by omega) ?_ | refine gi_mul ?_ | refine go_nx rfl ?_)
      refine go_rt rfl ?_
      exact h0 (fun j hj => hno j (by omega))
    | succ m ih =>
      intro i x5 hm hno
      have hi : i < es.length := by omega
      obtain ⟨v1, v2, v3, hc⟩ := hcell i hi
      obtain ⟨⟨lim, hnc⟩, hok⟩ := hnd i hi
      have hnc' : h.2.2 (N (es.getD i 0)) = some (.inr (4, [.ref row, .int (nI (B (es.getD i 0))), .int (nI (es.getD i 0)), .int (nI (q_ne B (es.getD i 0))), .int (nI (q_word B (es.getD i 0))), .int (nI (q_cls (B (es.getD i 0)))), .int (q_tf B (es.getD i 0)), .int (q_tt B (es.getD i 0)), .long (q_nu B (es.getD i 0)), q_fi B N (es.getD i 0), q_nx B N lim (es.getD i 0), .int (nI (O (es.getD i 0)))])) := hnc
      have hne := q_ne_is hrow (show es.getD i 0 ≤ 2000 by have := hok.1; omega)
      have hok2 := hok.2.1
      repeat (first | refine gc_n3 rfl ?_ | refine gc_n6 rfl ?_ | refine gc_n7 rfl ?_ | refine gc_n8 rfl ?_ | refine gc_n9 rfl ?_ | refine gi_con ?_ | refine gi_bip (Nat.le_of_ble_eq_true rfl) ?_ | refine gi_sip (Nat.le_of_ble_eq_true rfl) ?_ | refine gi_ldc ?_ | refine gi_add ?_ | refine gi_inc rfl ?_ | refine gi_sub (by omega) ?_ | refine gi_mul ?_ | refine go_nx rfl ?_)
      refine gf_get _ hf (by decide) rfl ?_
      refine go_step ?_
      refine g_callV (by decide) (by decide) (Nat.le_of_ble_eq_true rfl) (Nat.le_of_ble_eq_true rfl) (gL_rcv hl) (by omega) (Nat.le_of_ble_eq_true rfl) rfl ?_
      refine sp_lsize hl ?_
      rw [hle]
      first | refine gb_lt (by omega) (by omega) (fun c => ?_) (fun c => ?_) | refine gb_ge (by omega) (by omega) (fun c => ?_) (fun c => ?_) | refine gb_gt (by omega) (by omega) (fun c => ?_) (fun c => ?_) | refine gb_le (by omega) (by omega) (fun c => ?_) (fun c => ?_) | refine gb_eq (by omega) (by omega) (fun c => ?_) (fun c => ?_) | refine gb_ne (by omega) (by omega) (fun c => ?_) (fun c => ?_)
      · omega
      repeat (first | refine gc_n3 rfl ?_ | refine gc_n6 rfl ?_ | refine gc_n7 rfl ?_ | refine gc_n8 rfl ?_ | refine gc_n9 rfl ?_ | refine gi_con ?_ | refine gi_bip (Nat.le_of_ble_eq_true rfl) ?_ | refine gi_sip (Nat.le_of_ble_eq_true rfl) ?_ | refine gi_ldc ?_ | refine gi_add ?_ | refine gi_inc rfl ?_ | refine gi_sub (by omega) ?_ | refine gi_mul ?_ | refine go_nx rfl ?_)
      refine gf_get _ hf (by decide) rfl ?_
      repeat (first | refine gc_n3 rfl ?_ | refine gc_n6 rfl ?_ | refine gc_n7 rfl ?_ | refine gc_n8 rfl ?_ | refine gc_n9 rfl ?_ | refine gi_con ?_ | refine gi_bip (Nat.le_of_ble_eq_true rfl) ?_ | refine gi_sip (Nat.le_of_ble_eq_true rfl) ?_ | refine gi_ldc ?_ | refine gi_add ?_ | refine gi_inc rfl ?_ | refine gi_sub (by omega) ?_ | refine gi_mul ?_ | refine go_nx rfl ?_)
      refine go_step ?_
      refine g_callV (by decide) (by decide) (Nat.le_of_ble_eq_true rfl) (Nat.le_of_ble_eq_true rfl) (gL_rcv hl) (by omega) (Nat.le_of_ble_eq_true rfl) rfl ?_
      refine sp_lget (by omega) hl (by omega) ?_
      refine gc_cast0 hc rfl rfl ?_
      refine gf_get _ hc (by decide) rfl ?_
      repeat (first | refine gc_n3 rfl ?_ | refine gc_n6 rfl ?_ | refine gc_n7 rfl ?_ | refine gc_n8 rfl ?_ | refine gc_n9 rfl ?_ | refine gi_con ?_ | refine gi_bip (Nat.le_of_ble_eq_true rfl) ?_ | refine gi_sip (Nat.le_of_ble_eq_true rfl) ?_ | refine gi_ldc ?_ | refine gi_add ?_ | refine gi_inc rfl ?_ | refine gi_sub (by omega) ?_ | refine gi_mul ?_ | refine go_nx rfl ?_)
      refine gf_get _ hnc' (by decide) rfl ?_
      repeat (first | refine gc_n3 rfl ?_ | refine gc_n6 rfl ?_ | refine gc_n7 rfl ?_ | refine gc_n8 rfl ?_ | refine gc_n9 rfl ?_ | refine gi_con ?_ | refine gi_bip (Nat.le_of_ble_eq_true rfl) ?_ | refine gi_sip (Nat.le_of_ble_eq_true rfl) ?_ | refine gi_ldc ?_ | refine gi_add ?_ | refine gi_inc rfl ?_ | refine gi_sub (by omega) ?_ | refine gi_mul ?_ | refine go_nx rfl ?_)
      refine go_step ?_
      refine g_callV (by decide) (by decide) (Nat.le_of_ble_eq_true rfl) (Nat.le_of_ble_eq_true rfl) (o_rcv hnc' rfl (by decide)) (by omega) (Nat.le_of_ble_eq_true rfl) rfl ?_
      refine sp_nmFrom hnc' rfl ?_
      repeat (first | refine gc_n3 rfl ?_ | refine gc_n6 rfl ?_ | refine gc_n7 rfl ?_ | refine gc_n8 rfl ?_ | refine gc_n9 rfl ?_ | refine gi_con ?_ | refine gi_bip (Nat.le_of_ble_eq_true rfl) ?_ | refine gi_sip (Nat.le_of_ble_eq_true rfl) ?_ | refine gi_ldc ?_ | refine gi_add ?_ | refine gi_inc rfl ?_ | refine gi_sub (by omega) ?_ | refine gi_mul ?_ | refine go_nx rfl ?_)
      refine gf_get _ hnc' (by decide) rfl ?_
      repeat (first | refine gc_n3 rfl ?_ | refine gc_n6 rfl ?_ | refine gc_n7 rfl ?_ | refine gc_n8 rfl ?_ | refine gc_n9 rfl ?_ | refine gi_con ?_ | refine gi_bip (Nat.le_of_ble_eq_true rfl) ?_ | refine gi_sip (Nat.le_of_ble_eq_true rfl) ?_ | refine gi_ldc ?_ | refine gi_add ?_ | refine gi_inc rfl ?_ | refine gi_sub (by omega) ?_ | refine gi_mul ?_ | refine go_nx rfl ?_)
      refine go_step ?_
      refine g_call (k := 14) rfl (by omega) (Nat.le_of_ble_eq_true rfl) rfl ?_
      refine sp_compare (by omega) hr hx (by omega) (by omega) hft hto ?_
      refine gx_ne (fun c2 => ?_) (fun c2 => ?_)
      · repeat (first | refine gc_n3 rfl ?_ | refine gc_n6 rfl ?_ | refine gc_n7 rfl ?_ | refine gc_n8 rfl ?_ | refine gc_n9 rfl ?_ | refine gi_con ?_ | refine gi_bip (Nat.le_of_ble_eq_true rfl) ?_ | refine gi_sip (Nat.le_of_ble_eq_true rfl) ?_ | refine gi_ldc ?_ | refine gi_add ?_ | refine gi_inc rfl ?_ | refine gi_sub (by omega) ?_ | refine gi_mul ?_ | refine go_nx rfl ?_)
        refine go_jp rfl ?_
        refine ih (i + 1) _ (by omega) (fun j hj => ?_)
        by_cases ej : j = i
        · rw [ej]
          exact decide_eq_false c2
        · exact hno j (by omega)
      · repeat (first | refine gc_n3 rfl ?_ | refine gc_n6 rfl ?_ | refine gc_n7 rfl ?_ | refine gc_n8 rfl ?_ | refine gc_n9 rfl ?_ | refine gi_con ?_ | refine gi_bip (Nat.le_of_ble_eq_true rfl) ?_ | refine gi_sip (Nat.le_of_ble_eq_true rfl) ?_ | refine gi_ldc ?_ | refine gi_add ?_ | refine gi_inc rfl ?_ | refine gi_sub (by omega) ?_ | refine gi_mul ?_ | refine go_nx rfl ?_)
        refine gf_get _ hf (by decide) rfl ?_
        repeat (first | refine gc_n3 rfl ?_ | refine gc_n6 rfl ?_ | refine gc_n7 rfl ?_ | refine gc_n8 rfl ?_ | refine gc_n9 rfl ?_ | refine gi_con ?_ | refine gi_bip (Nat.le_of_ble_eq_true rfl) ?_ | refine gi_sip (Nat.le_of_ble_eq_true rfl) ?_ | refine gi_ldc ?_ | refine gi_add ?_ | refine gi_inc rfl ?_ | refine gi_sub (by omega) ?_ | refine gi_mul ?_ | refine go_nx rfl ?_)
        refine go_step ?_
        refine g_callV (by decide) (by decide) (Nat.le_of_ble_eq_true rfl) (Nat.le_of_ble_eq_true rfl) (gL_rcv hl) (by omega) (Nat.le_of_ble_eq_true rfl) rfl ?_
        refine sp_lget (by omega) hl (by omega) ?_
        refine gc_cast0 hc rfl rfl ?_
        refine go_rt rfl ?_
        exact h1 i hi (decide_eq_true c2)
  repeat (first | refine gc_n3 rfl ?_ | refine gc_n6 rfl ?_ | refine gc_n7 rfl ?_ | refine gc_n8 rfl ?_ | refine gc_n9 rfl ?_ | refine gi_con ?_ | refine gi_bip (Nat.le_of_ble_eq_true rfl) ?_ | refine gi_sip (Nat.le_of_ble_eq_true rfl) ?_ | refine gi_ldc ?_ | refine gi_add ?_ | refine gi_inc rfl ?_ | refine gi_sub (by omega) ?_ | refine gi_mul ?_ | refine go_nx rfl ?_)
  refine go_jp rfl ?_
  exact loop es.length 0 mm_un (by omega) (fun j hj => absurd hj (Nat.not_lt_zero _))
end C
