/-! A FILTER WITHOUT FAULT IS FINE -/
section F
variable {B : Nat → Nat} {n : Nat}
theorem pre_le (hrow : q_row B n) : ∀ {k v stop : Nat} {row : Bool}, q_box (q_u8 B) B k v stop row = true → stop ≤ n → 2 * (q_pre B k v).length + 5 ≤ q_sz B v := by
  intro k
  induction k with
  | zero => intro v stop row h; cases h
  | succ k ih =>
    intro v stop row h hst
    obtain ⟨h1, h2, h3, h4⟩ := q_box_at h
    have hl : q_last B v ≤ n := by unfold q_last; omega
    have loop : ∀ f p i, q_at (q_u8 B) k B row (q_last B v) p i → 2 * ((q_els B (q_last B v) f p).map (sT B k)).sum + p ≤ q_last B v := by
      intro f
      induction f with
      | zero => intro p i ha; have := q_at_le ha; show 2 * 0 + p ≤ _; omega
      | succ f ihf =>
        intro p i ha
        rw [q_els_s]
        by_cases hp : p < q_last B v
        · rw [if_pos hp, List.map_cons, List.sum_cons]
          obtain ⟨a1, a2, a3, a4, a5⟩ := q_at_el ha hp
          have hk := q_at_ok ha hp hl
          have hin := q_ok_in hrow hk
          have := ihf _ _ a5
          have h2s : 2 * sT B k p + p ≤ q_next B p := by
            unfold sT
            split
            · rename_i h34
              have hb := q_at_box a2
              have h5 : 2 * (q_pre B k (q_val B p)).length + 5 ≤ q_sz B (q_val B p) := by
                rcases h34 with e | e
                · exact ih (hb.1 e) hl
                · exact ih (hb.2 e) hl
              have hn : q_next B p = q_val B p + q_sz B (q_val B p) := by
                unfold q_next q_ln
                rw [if_neg (by omega), if_neg (by omega), if_neg (by omega), if_neg (by omega), if_pos h34]
              omega
            · omega
          omega
        · rw [if_neg hp]
          show 2 * 0 + p ≤ _
          exact (by have := q_at_le ha; omega)
    have h5 := loop 2001 (v + 4) 0 h4
    rw [pre_len]
    have e2 : q_els B (q_last B v) 2001 (v + 4) = q_box_els B v := rfl
    rw [e2] at h5
    unfold q_last at h5
    omega
theorem pre_1000 (hrow : q_row B n) (hb : q_box (q_u8 B) B 16 0 n false = true) : (q_pre B 16 0).length ≤ 997 := by
  have := pre_le hrow hb (Nat.le_refl _)
  have h1 := q_box_le hb
  have := hrow.1
  omega
theorem pre_up {k v stop x y : Nat} {row : Bool} (_ : q_box (q_u8 B) B (k + 1) v stop row = true) (hx : x ∈ q_box_els B v) (h34 : B x = 3 ∨ B x = 4) (hy : y ∈ q_pre B k (q_val B x)) : y ∈ q_pre B (k + 1) v := by
  rw [q_pre_s]
  refine List.mem_flatMap.mpr ⟨x, hx, ?_⟩
  rw [if_pos h34]
  exact List.mem_cons_of_mem _ hy
variable {ob : Nat → Nat → Int32} {P : Nat → Prop} {O : Nat → Nat}
/-- a box that goes k deep has no more below -/
theorem pre_sat : ∀ {k v stop : Nat} {row : Bool}, q_box (q_u8 B) B k v stop row = true → ∀ j, q_pre B (k + j) v = q_pre B k v := by
  intro k
  induction k with
  | zero => intro v stop row h; cases h
  | succ k ih =>
    intro v stop row h j
    have hels := box_els h
    rw [show k + 1 + j = (k + j) + 1 by omega, q_pre_s, q_pre_s]
    unfold q_preL
    refine fm_congr (fun x hx => ?_)
    by_cases h34 : B x = 3 ∨ B x = 4
    · obtain ⟨-, s, r, hb⟩ := hels x hx h34
      rw [if_pos h34, if_pos h34, ih hb j]
    · rw [if_neg h34, if_neg h34]
theorem sT_sat {k e : Nat} (hk : k ≤ 17) (hb : B e = 3 ∨ B e = 4 → ∃ s r, q_box (q_u8 B) B k (q_val B e) s r = true) : sT B 17 e = sT B k e := by
  unfold sT
  by_cases h34 : B e = 3 ∨ B e = 4
  · obtain ⟨s, r, h⟩ := hb h34
    rw [if_pos h34, if_pos h34, show 17 = k + (17 - k) by omega, pre_sat h]
  · rw [if_neg h34, if_neg h34]
/-- the size of a condition -/
def zS (B : Nat → Nat) (z : Nat × Nat × Nat) : Nat := sT B 17 z.2.2
/-- what is known of one condition: its places, its rows, how many -/
def zAt (ob : Nat → Nat → Int32) (P : Nat → Prop) (O B : Nat → Nat) (A : List Nat) (z : Nat × Nat × Nat) : Prop := z.1 ∈ A ∧ z.2.2 ∈ A ∧ (∀ l, q_bnd ob B z.2 = some l → rSd P O l ∧ l.length ≤ zS B z) ∧ zS B z ≤ A.length ∧ (B z.2.2 = 3 ∨ B z.2.2 = 4 → ∃ j s r, j ≤ 16 ∧ q_box (q_u8 B) B j (q_val B z.2.2) s r = true)
theorem sum_mem {g : Nat → Nat} : ∀ {l : List Nat} {x : Nat}, x ∈ l → g x ≤ (l.map g).sum := by
  intro l
  induction l with
  | nil => intro x hx; exact absurd hx List.not_mem_nil
  | cons y l ih =>
    intro x hx
    rw [List.map_cons, List.sum_cons]
    rcases List.mem_cons.mp hx with e | e
    · rw [e]; omega
    · have := ih e; omega
theorem colA_sum (hO : oIs ob P O) (hc : oCl ob B) (hsub : ∀ x, P x → B x = 3 ∨ B x = 4 → ∀ y ∈ q_box_els B (q_val B x), P y) : ∀ (k lev v stop : Nat) (row : Bool), q_box (q_u8 B) B lev v stop row = true → lev ≤ 17 → q_ffr B k v → (∀ z ∈ q_colA B k v, zOk B z) → (∀ x ∈ q_pre B lev v, P x) → (∀ z ∈ q_colA B k v, zAt ob P O B (q_pre B lev v) z) ∧ ((q_colA B k v).map (zS B)).sum ≤ (q_pre B lev v).length := by
  intro k
  induction k with
  | zero => intro lev v stop row _ _ h; exact h.elim
  | succ k ih =>
    intro lev v stop row hb hl17 hff hz hP
    have h1 := q_box_pos hb
    obtain ⟨lev, rfl⟩ : ∃ j, lev = j + 1 := ⟨lev - 1, by omega⟩
    have hels := box_els hb
    /- one condition at some place whose boxes go lv deep -/
    have key : ∀ (lv : Nat) (z : Nat × Nat × Nat), lv ≤ 16 → zOk B z → P z.2.2 → (B z.2.2 = 3 ∨ B z.2.2 = 4 → ∃ s r, q_box (q_u8 B) B lv (q_val B z.2.2) s r = true) → ∀ l, q_bnd ob B z.2 = some l → rSd P O l ∧ l.length ≤ zS B z := by
      intro lv z hlv hz1 hp hbz l q
      have := bnd_sd hO hc hz1 hp hbz hsub q
      unfold zS
      rw [sT_sat (by omega) hbz]
      exact this
    have one : ∀ e ∈ q_box_els B v, (∀ z ∈ q_colAE B (q_colA B k) e, zAt ob P O B (q_pre B (lev + 1) v) z) ∧ ((q_colAE B (q_colA B k) e).map (zS B)).sum ≤ sT B lev e := by
      intro e he
      have hze : ∀ z ∈ q_colAE B (q_colA B k) e, zOk B z := fun z q => hz z (by rw [q_colA_s]; exact List.mem_flatMap.mpr ⟨e, he, q⟩)
      have hemem := pre_top hb e he
      have hle : sT B lev e ≤ (q_pre B (lev + 1) v).length := by
        rw [pre_len]
        exact sum_mem he
      unfold q_colAE at hze ⊢
      by_cases w2 : q_word B e = 2
      · rw [if_pos w2] at hze ⊢
        obtain ⟨h4, hi⟩ := hff e he w2
        obtain ⟨l1, s, r, hb2⟩ := hels e he (Or.inr h4)
        obtain ⟨lev, rfl⟩ : ∃ j, lev = j + 1 := ⟨lev - 1, by omega⟩
        have hels2 := box_els hb2
        have hsT : sT B (lev + 1) e = 1 + ((q_box_els B (q_val B e)).map (sT B lev)).sum := by
          unfold sT
          rw [if_pos (Or.inr h4), pre_len]
          rfl
        have two : ∀ i ∈ q_box_els B (q_val B e), (∀ z ∈ q_colA B k (q_val B i), zAt ob P O B (q_pre B lev (q_val B i)) z) ∧ ((q_colA B k (q_val B i)).map (zS B)).sum ≤ sT B lev i := by
          intro i hii
          obtain ⟨h3, hf⟩ := hi i hii
          obtain ⟨-, s, r, hb3⟩ := hels2 i hii (Or.inl h3)
          obtain ⟨g1, g2⟩ := ih lev (q_val B i) s r hb3 (by omega) hf (fun z q => hze z (List.mem_flatMap.mpr ⟨i, hii, q⟩)) (fun x hx => hP x (pre_up hb he (Or.inr h4) (pre_up hb2 hii (Or.inl h3) hx)))
          refine ⟨g1, ?_⟩
          unfold sT
          rw [if_pos (Or.inl h3)]
          omega
        refine ⟨fun z q => ?_, ?_⟩
        · obtain ⟨i, hii, q⟩ := List.mem_flatMap.mp q
          obtain ⟨g1, g2, g3, g4, g5⟩ := (two i hii).1 z q
          have h3 := (hi i hii).1
          refine ⟨pre_up hb he (Or.inr h4) (pre_up hb2 hii (Or.inl h3) g1), pre_up hb he (Or.inr h4) (pre_up hb2 hii (Or.inl h3) g2), g3, ?_, g5⟩
          have a1 : (q_pre B lev (q_val B i)).length ≤ sT B lev i := by
            unfold sT
            rw [if_pos (Or.inl h3)]
            omega
          have a2 := sum_mem (g := sT B lev) hii
          omega
        · rw [mapsum_fm]
          have := sum_mono (f := fun i => ((q_colA B k (q_val B i)).map (zS B)).sum) (g := sT B lev) (l := q_box_els B (q_val B e)) (fun i hii => (two i hii).2)
          omega
      · rw [if_neg w2] at hze ⊢
        by_cases hcd : q_cond B e = true
        · rw [if_pos hcd] at hze ⊢
          have h3 := cond_3 hcd
          obtain ⟨l1, s, r, hb2⟩ := hels e he (Or.inl h3)
          obtain ⟨lev, rfl⟩ : ∃ j, lev = j + 1 := ⟨lev - 1, by omega⟩
          have hels2 := box_els hb2
          have hsT : sT B (lev + 1) e = 1 + ((q_box_els B (q_val B e)).map (sT B lev)).sum := by
            unfold sT
            rw [if_pos (Or.inl h3), pre_len]
            rfl
          have two : ∀ c ∈ q_box_els B (q_val B e), (∀ z ∈ (q_add B (q_nof (q_word B c)) c).map (fun ce => (e, ce)), zAt ob P O B (q_pre B (lev + 1 + 1) v) z) ∧ (((q_add B (q_nof (q_word B c)) c).map (fun ce => (e, ce))).map (zS B)).sum ≤ sT B lev c := by
            intro c hcc
            have hcm : c ∈ q_pre B (lev + 1 + 1) v := pre_up hb he (Or.inl h3) (pre_top hb2 c hcc)
            have hzc : ∀ z ∈ (q_add B (q_nof (q_word B c)) c).map (fun ce => (e, ce)), zOk B z := fun z q => hze z (List.mem_flatMap.mpr ⟨c, hcc, q⟩)
            have a2 := sum_mem (g := sT B lev) hcc
            have hsat : sT B 17 c = sT B lev c := sT_sat (by omega) (fun q => (hels2 c hcc q).2)
            unfold q_add at hzc ⊢
            split at hzc
            · rename_i hn
              rw [if_pos hn]
              exact ⟨fun z q => absurd q List.not_mem_nil, Nat.zero_le _⟩
            · rename_i hn
              rw [if_neg hn]
              have hz1 := hzc _ (List.mem_singleton.mpr rfl)
              have hk := key lev _ (by omega) hz1 (hP c hcm) (fun q => (hels2 c hcc q).2)
              refine ⟨fun z q => ?_, ?_⟩
              · rw [List.mem_singleton.mp q]
                refine ⟨hemem, hcm, hk, ?_, fun q => ?_⟩
                · show sT B 17 c ≤ _
                  omega
                · obtain ⟨s, r, q⟩ := (hels2 c hcc q).2
                  exact ⟨lev, s, r, by omega, q⟩
              · show sT B 17 c + 0 ≤ _
                omega
          refine ⟨fun z q => ?_, ?_⟩
          · obtain ⟨c, hcc, q⟩ := List.mem_flatMap.mp q
            exact (two c hcc).1 z q
          · rw [mapsum_fm]
            have := sum_mono (f := fun c => (((q_add B (q_nof (q_word B c)) c).map (fun ce => (e, ce))).map (zS B)).sum) (g := sT B lev) (l := q_box_els B (q_val B e)) (fun c hcc => (two c hcc).2)
            omega
        · rw [if_neg hcd] at hze ⊢
          have ea : q_add B 1 e = [(1, e)] := if_neg (fun q => by omega)
          rw [ea] at hze ⊢
          have hz1 := hze _ (List.mem_singleton.mpr rfl)
          have hsat : sT B 17 e = sT B lev e := sT_sat (by omega) (fun q => (hels e he q).2)
          have hk := key lev _ (by omega) hz1 (hP e hemem) (fun q => (hels e he q).2)
          refine ⟨fun z q => ?_, ?_⟩
          · rw [List.mem_singleton.mp q]
            refine ⟨hemem, hemem, hk, ?_, fun q => ?_⟩
            · show sT B 17 e ≤ _
              omega
            · obtain ⟨s, r, q⟩ := (hels e he q).2
              exact ⟨lev, s, r, by omega, q⟩
          · show sT B 17 e + 0 ≤ _
            omega
    refine ⟨fun z q => ?_, ?_⟩
    · rw [q_colA_s] at q
      obtain ⟨e, he, q⟩ := List.mem_flatMap.mp q
      exact (one e he).1 z q
    · rw [q_colA_s, mapsum_fm, pre_len]
      exact sum_mono (fun e he => (one e he).2)
theorem fold_sd (hO : oIs ob P O) : ∀ (K : List (Nat × Nat)) (st : Option (List qR)) (c0 : Nat), (∀ ce ∈ K, ∀ l, q_bnd ob B ce = some l → rSd P O l) → (∀ l, st = some l → rSd P O l ∧ l.length ≤ c0) → ∀ l, K.foldl (fun st ce => q_join2 ob st (q_bnd ob B ce)) st = some l → rSd P O l ∧ l.length ≤ c0 + (K.map (fun ce => ((q_bnd ob B ce).getD []).length)).sum := by
  intro K
  induction K with
  | nil => intro st c0 _ h l hl; exact h l hl
  | cons ce K ih =>
    intro st c0 hK h l hl
    rw [List.foldl_cons] at hl
    have := ih _ (c0 + ((q_bnd ob B ce).getD []).length) (fun x hx => hK x (List.mem_cons_of_mem ce hx)) (fun l1 h1 => ?_) l hl
    · rw [List.map_cons, List.sum_cons]
      exact ⟨this.1, by omega⟩
    · have hj := join_sd hO (fun l q => (h l q).1) (hK ce List.mem_cons_self) h1
      have g1 : (st.getD []).length ≤ c0 := by
        cases st with
        | none => exact Nat.zero_le _
        | some a => exact (h a rfl).2
      exact ⟨hj.1, by omega⟩
theorem sum_filter {α : Type} (g : α → Nat) (p : α → Bool) : ∀ l : List α, ((l.filter p).map g).sum ≤ (l.map g).sum := by
  intro l
  induction l with
  | nil => exact Nat.le_refl _
  | cons x l ih =>
    rw [List.filter_cons]
    split
    · rw [List.map_cons, List.sum_cons, List.map_cons, List.sum_cons]
      omega
    · rw [List.map_cons, List.sum_cons]
      omega
theorem oCl_ord (B : Nat → Nat) : oCl (q_ord B B 17) B := fun x y h => by
  rw [q_ord]
  exact if_pos h
/-- what holds of a filter without fault, for any numbers of its order -/
theorem filt_ok (hb : q_box (q_u8 B) B 16 0 n false = true) (hf : (q_flt B 16 false 0 0).1 = 0) (hO : oIs (q_ord B B 17) (fun x => x ∈ q_pre B 16 0) O) : q_ffr B 16 0 ∧ (∀ z ∈ q_colA B 16 0, zOk B z) ∧ ((q_colA B 16 0).map (zW B)).sum ≤ 100 ∧ (∀ z ∈ q_colA B 16 0, zAt (q_ord B B 17) (fun x => x ∈ q_pre B 16 0) O B (q_pre B 16 0) z) ∧ ((q_colA B 16 0).map (zS B)).sum ≤ (q_pre B 16 0).length := by
  have hle := (q_flt_le B 16 false 0 0 (by omega)).2 hf
  have hpr : q_flt B 16 false 0 0 = (0, (q_flt B 16 false 0 0).2) := Prod.ext hf rfl
  obtain ⟨f1, f2, f3⟩ := flt_F 16 16 0 n 0 _ false hb (Nat.le_refl _) hpr
  have hsub : ∀ x, x ∈ q_pre B 16 0 → B x = 3 ∨ B x = 4 → ∀ y ∈ q_box_els B (q_val B x), y ∈ q_pre B 16 0 := fun x hx h34 => pre_sub hb x hx h34
  obtain ⟨g1, g2⟩ := colA_sum hO (oCl_ord B) hsub 16 16 0 n false hb (by omega) f1 f2 (fun x hx => hx)
  exact ⟨f1, f2, by omega, g1, g2⟩
/-- the conditions of an $elem have no more rows than values -/
theorem elem_sum {z : Nat × Nat × Nat} {A : List Nat} (hz : zAt ob P O B A z) (h3 : B z.2.2 = 3) : ((q_box_els B (q_val B z.2.2)).map (sT B 17)).sum + 1 = zS B z := by
  obtain ⟨j, s, r, hj, hb⟩ := hz.2.2.2.2 (Or.inl h3)
  unfold zS
  rw [show sT B 17 z.2.2 = 1 + (if B z.2.2 = 3 ∨ B z.2.2 = 4 then (q_pre B 17 (q_val B z.2.2)).length else 0) from rfl, if_pos (Or.inl h3), ← pre_len]
  rw [show 17 + 1 = j + (18 - j) by omega, pre_sat hb]
  rw [show (q_pre B 17 (q_val B z.2.2)) = q_pre B (j + (17 - j)) (q_val B z.2.2) by rw [show j + (17 - j) = 17 by omega], pre_sat hb]
  omega
theorem fine_ok (hrow : q_row B n) (hb : q_box (q_u8 B) B 16 0 n false = true) (hf : (q_flt B 16 false 0 0).1 = 0) : q_fine B n := by
  have hlen := pre_1000 hrow hb
  have hO := oRk_is (q_tot B 17) (L := q_pre B 16 0) (by omega)
  have hsub : ∀ x, x ∈ q_pre B 16 0 → B x = 3 ∨ B x = 4 → ∀ y ∈ q_box_els B (q_val B x), y ∈ q_pre B 16 0 := fun x hx h34 => pre_sub hb x hx h34
  obtain ⟨f1, f2, f3, g1, g2⟩ := filt_ok hb hf hO
  refine ⟨hb, f1, fun P m => ?_⟩
  have hcol := colA_col (B := B) P m 16 0
  have hmem : ∀ ce ∈ q_col B P m 16 0, ∃ z ∈ q_colA B 16 0, z.2 = ce := by
    intro ce h
    rw [hcol] at h
    obtain ⟨z, hz, e⟩ := List.mem_map.mp h
    exact ⟨z, (List.mem_filter.mp hz).1, e⟩
  have hlast : q_last B 0 ≤ n := by
    have := q_box_le hb
    unfold q_last
    omega
  refine ⟨⟨fun ce h => ?_, fun pre rest hpr l hl => ?_⟩, ?_⟩
  · obtain ⟨z, hz, rfl⟩ := hmem ce h
    have hzz := g1 z hz
    obtain ⟨a1, a2, a3, a4, a5⟩ := g1 z hz
    have hz2 := f2 z hz
    obtain ⟨lev, last, b1, b2, b3, b4, b5⟩ := q_pre_el hb z.2.2 a2
    refine ⟨⟨lev, by omega, last, by omega, b3, b4, b5⟩, hz2.1, hz2.2.1, hz2.2.2.1, fun h7 => ?_⟩
    obtain ⟨c1, c2⟩ := hz2.2.2.2 h7
    have h3 := ofi_3 c1
    refine ⟨h3, fun x hx q => (c2 x hx).2 q, fun pre rest hpr l hl => ?_⟩
    have hpm : ∀ x ∈ pre, x ∈ q_box_els B (q_val B z.2.2) := fun x hx => by
      have : x ∈ pre ++ rest := List.mem_append_left _ hx
      rw [← hpr] at this
      exact this
    have hw := (we_pre (k := 17) hO (oCl_ord B) pre none 0 (fun x hx => ⟨hsub _ a2 (Or.inl h3) x (hpm x hx), fun q => by
      have h4 := (c2 x (hpm x hx)).2 q
      exact ⟨Or.inr h4, by omega, hsub x (hsub _ a2 (Or.inl h3) x (hpm x hx)) (Or.inr h4)⟩⟩) (fun l q => by cases q) l hl).2.2
    have e1 := elem_sum hzz h3
    rw [show q_box_els B (q_val B z.2.2) = pre ++ rest from hpr, List.map_append, List.sum_append] at e1
    omega
  · have hfs := (fold_sd hO pre none 0 (fun ce h => ?_) (fun l q => by cases q) l hl).2
    · have e1 : ((q_col B P m 16 0).map (fun ce => ((q_bnd (q_ord B B 17) B ce).getD []).length)).sum ≤ ((q_colA B 16 0).map (zS B)).sum := by
        rw [hcol, List.map_map]
        refine Nat.le_trans (sum_filter _ _ _) (sum_mono (fun z hz => ?_))
        show ((q_bnd (q_ord B B 17) B z.2).getD []).length ≤ _
        cases hq : q_bnd (q_ord B B 17) B z.2 with
        | none => exact Nat.zero_le _
        | some l => exact ((g1 z hz).2.2.1 l hq).2
      rw [hpr, List.map_append, List.sum_append] at e1
      omega
    · obtain ⟨z, hz, rfl⟩ := hmem ce (by rw [hpr]; exact List.mem_append_left _ h)
      exact fun l q => ((g1 z hz).2.2.1 l q).1
  · have e1 : (q_col B P m 16 0).length ≤ (q_colA B 16 0).length := by
      rw [hcol, List.length_map]
      exact List.length_filter_le _ _
    have e2 : (q_colA B 16 0).length ≤ ((q_colA B 16 0).map (zW B)).sum := by
      have : ∀ l : List (Nat × Nat × Nat), l.length ≤ (l.map (zW B)).sum := by
        intro l
        induction l with
        | nil => exact Nat.le_refl _
        | cons x l ih =>
          rw [List.map_cons, List.sum_cons, List.length_cons]
          have : 1 ≤ zW B x := by unfold zW; omega
          omega
      exact this _
    omega
end F
