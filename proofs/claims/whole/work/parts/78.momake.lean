/-! ===== the model's make: its heavy values ===== -/
/-- so far chosen -/
def hvI (g : Int → Int) (τ : Mem) (b : Nat) (c al nn dd k : Int) (tr : Int → Int) : Prop := ∃ s : (Int → Int) × (Int → Int), (∀ j : Int, 0 ≤ j → j < 40 → τ (b + 14) (40 * c + j) = s.1 j ∧ (s.1 j ≠ 0 → τ (b + 13) (40 * c + j) = s.2 j) ∧ (s.1 j = 0 → τ (b + 13) (40 * c + j) = g (40 * c + j))) ∧ chV tr al nn dd (8 - k).toNat s = chV tr al nn dd 8 (fun _ => 0, fun _ => 0)
theorem hvI_h {g : Int → Int} {τ : Mem} {b : Nat} {c al nn dd k : Int} {tr : Int → Int} (h : hvI g τ b c al nn dd k tr) (hd : 0 ≤ dd) (ht : ∀ j : Int, 0 ≤ j → j < 40 → 0 ≤ tr j) (hk : 8 ≤ k ∨ mbV (shR (τ (b + 14)) (40 * c)) tr al nn dd = -1) : ∀ j : Int, 0 ≤ j → j < 40 → τ (b + 14) (40 * c + j) = (chV tr al nn dd 8 (fun _ => 0, fun _ => 0)).1 j ∧ ((chV tr al nn dd 8 (fun _ => 0, fun _ => 0)).1 j ≠ 0 → τ (b + 13) (40 * c + j) = (chV tr al nn dd 8 (fun _ => 0, fun _ => 0)).2 j) ∧ ((chV tr al nn dd 8 (fun _ => 0, fun _ => 0)).1 j = 0 → τ (b + 13) (40 * c + j) = g (40 * c + j)) := by
  obtain ⟨s, h1, h2⟩ := h
  have e : chV tr al nn dd (8 - k).toNat s = s := by
    rcases hk with q | q
    · rw [show (8 - k).toNat = 0 by omega]; rfl
    · exact chV_stop hd ht (by rw [← q]; exact (mb_congr (fun w w0 w1 => (h1 w w0 w1).1) (fun _ _ _ => rfl)).symm)
  rw [← h2, e]
  exact h1
theorem hvI_go {g : Int → Int} {τ u : Mem} {b : Nat} {c al nn dd k m : Int} {tr : Int → Int} (h : hvI g τ b c al nn dd k tr) (hd : 0 ≤ dd) (ht : ∀ j : Int, 0 ≤ j → j < 40 → 0 ≤ tr j) (hk : k < 8) (hm : m = mbV (shR (τ (b + 14)) (40 * c)) tr al nn dd) (hm1 : m ≠ -1)
    (a1 : ∀ j : Int, j ≠ m → u (b + 14) (40 * c + j) = τ (b + 14) (40 * c + j)) (a2 : ∀ j : Int, j ≠ m → u (b + 13) (40 * c + j) = τ (b + 13) (40 * c + j)) (a3 : u (b + 14) (40 * c + m) = 1) (a4 : u (b + 13) (40 * c + m) = tr m) : hvI g u b c al nn dd (k + 1) tr := by
  obtain ⟨s, h1, h2⟩ := h
  have e : mbV (shR (τ (b + 14)) (40 * c)) tr al nn dd = mbV s.1 tr al nn dd := mb_congr (fun w w0 w1 => (h1 w w0 w1).1) (fun _ _ _ => rfl)
  rw [e] at hm
  have g9 := chV_go (m := (8 - (k + 1)).toNat) (s := s) (al := al) (nn := nn) hd ht (by rw [← hm]; exact hm1)
  rw [← hm] at g9
  refine ⟨_, fun j j0 j1 => ?_, by rw [← h2, show (8 - k).toNat = (8 - (k + 1)).toNat + 1 by omega, g9.2]⟩
  dsimp only
  unfold upI
  by_cases q : j = m
  · rw [if_pos q, if_pos q, q]; exact ⟨a3, fun _ => a4, fun y => absurd y (by decide)⟩
  · rw [if_neg q, if_neg q, a1 j q, a2 j q]; exact h1 j j0 j1
set_option maxHeartbeats 4000000 in
set_option maxRecDepth 100000 in
theorem mk_s1 {x : XC} {v : VC} {A : Nat → Prop} {Q : State → Prop} (C : Cx x v A cX7_make RX7 10 wsX7_make 2 48) (σ : Mem) (b : Nat) (hM : shMo v b) (i1 b1 n1 d1 : Int) (hc : 0 ≤ i1 ∧ i1 < 3) (k : ∀ τ : Mem, (∀ j : Int, 0 ≤ j → j < 40 → τ (b + 14) (40 * i1 + j) = 0) → (∀ j : Int, j < 40 * i1 ∨ 40 * i1 + 40 ≤ j → τ (b + 14) j = σ (b + 14) j) → (∀ a : Nat, a ≠ b + 14 → τ a = σ a) → At x v A Q 10 77 [(0, .ref (vq v b)), (1, vI i1), (2, vI b1), (3, vI n1), (4, vI d1)] [] τ) : At x v A Q 10 48 [(0, .ref (vq v b)), (1, vI i1), (2, vI b1), (3, vI n1), (4, vI d1)] [] σ := by
  have iX7 : ∀ w ∈ wsX70, w ∈ wsX7_make := by decide +kernel
  have k54 : Cond.fieldLink RX7 54 (TX7 16).1 (TX7 16).2.1 (TX7 16).2.2.1 ∈ wsX7_make := by decide +kernel
  have lp : ∀ (n : Nat) (w1 : Int) (τ : Mem) , (40 - w1).toNat = n → (0 ≤ w1 ∧ w1 ≤ 40) → (∀ j : Int, 0 ≤ j → j < w1 → τ (b + 14) (40 * i1 + j) = 0) → (∀ j : Int, j < 40 * i1 ∨ 40 * i1 + 40 ≤ j → τ (b + 14) j = σ (b + 14) j) → (∀ a : Nat, a ≠ b + 14 → τ a = σ a) → At x v A Q 10 51 [(5, vI w1), (0, .ref (vq v b)), (1, vI i1), (2, vI b1), (3, vI n1), (4, vI d1)] [] τ := by
    intro n
    induction n using Nat.strongRecOn with
    | _ n ih =>
      intro w1 τ hn i1_ iz iO iF
      refine a_iload C dX7_make_51 0 rfl ?_
      refine a_bipush C dX7_make_53 ?_
      refine a_icmp_ge C 77 (by omega) (by decide) dX7_make_55 (by decide) (fun c55 => ?_) (fun c55 => ?_)
      · skip
        refine a_sub [1, 2, 3, 4, 5] [(0, .ref (vq v b)), (1, vI i1), (2, vI b1), (3, vI n1), (4, vI d1)] rfl ?_
        exact k τ (fun j j0 j1 => iz j j0 (by omega)) iO iF
      · skip
        refine a_aload_n C dX7_make_58 1 rfl rfl ?_
        refine a_getf C hM.f0 hM.n0 (Cn := RX7) (T := TX7) (N := 30) rfl iX7 16 (by decide) k54 (w := .ref (vq v (b + 14))) rfl dX7_make_59 ?_
        refine a_bipush C dX7_make_62 ?_
        refine a_iload_n C dX7_make_64 2 rfl rfl ?_
        refine a_imul C dX7_make_65 ?_
        refine a_iload C dX7_make_66 0 rfl ?_
        refine a_iadd C dX7_make_68 ?_
        refine a_iconst C dX7_make_69 ?_
        refine a_zast C hM.f14 hM.n14 2 hM.tB (by omega) (by omega) (by decide) (by omega) dX7_make_70 ?_
        refine a_iinc C (w1 + 1) [(5, vI (w1 + 1)), (0, .ref (vq v b)), (1, vI i1), (2, vI b1), (3, vI n1), (4, vI d1)] dX7_make_71 0 rfl (by omega) (by decide) rfl ?_
        refine a_goto C 51 dX7_make_74 (by decide) ?_
        refine ih _ (by omega) (w1 + 1) _ rfl (by omega) (fun j j0 j1 => ?_) (fun j q => by rw [sput_j _ _ _ _ _ (by omega)]; exact iO j q) (fun a q => by rw [sput_r q]; exact iF a q)
        by_cases z : j = w1
        · rw [z, sput_s]
        · rw [sput_j _ _ _ _ _ (by omega)]; exact iz j j0 (by omega)
  refine a_iconst C dX7_make_48 ?_
  refine a_istore C [(5, vI 0), (0, .ref (vq v b)), (1, vI i1), (2, vI b1), (3, vI n1), (4, vI d1)] dX7_make_49 (by decide) rfl ?_
  exact lp _ 0 σ rfl (by omega) (fun j q1 q2 => by omega) (fun _ _ => rfl) (fun _ _ => rfl)
set_option maxHeartbeats 4000000 in
set_option maxRecDepth 100000 in
theorem mk_s2 {x : XC} {v : VC} {A : Nat → Prop} {Q : State → Prop} (C : Cx x v A cX7_make RX7 10 wsX7_make 2 48) (σ : Mem) (b : Nat) (hM : shMo v b) (i1 b1 n1 d1 : Int) (hc : 0 ≤ i1 ∧ i1 < 3) (hA : 0 ≤ (σ (b + 6) i1) ∧ (σ (b + 6) i1) ≤ 10000) (hn : 0 ≤ n1 ∧ n1 ≤ 1000) (hd : 1 ≤ d1 ∧ d1 ≤ 1000) (hT : ∀ j : Int, 0 ≤ j → j < 40 → 0 ≤ (shR (σ (b + 4)) (40 * i1)) j ∧ (shR (σ (b + 4)) (40 * i1)) j ≤ 10000) (hz : ∀ j : Int, 0 ≤ j → j < 40 → σ (b + 14) (40 * i1 + j) = 0) (k : ∀ τ : Mem, (∀ j : Int, 0 ≤ j → j < 40 → τ (b + 14) (40 * i1 + j) = (chV (shR (σ (b + 4)) (40 * i1)) (σ (b + 6) i1) n1 d1 8 (fun _ => 0, fun _ => 0)).1 j ∧ ((chV (shR (σ (b + 4)) (40 * i1)) (σ (b + 6) i1) n1 d1 8 (fun _ => 0, fun _ => 0)).1 j ≠ 0 → τ (b + 13) (40 * i1 + j) = (chV (shR (σ (b + 4)) (40 * i1)) (σ (b + 6) i1) n1 d1 8 (fun _ => 0, fun _ => 0)).2 j) ∧ ((chV (shR (σ (b + 4)) (40 * i1)) (σ (b + 6) i1) n1 d1 8 (fun _ => 0, fun _ => 0)).1 j = 0 → τ (b + 13) (40 * i1 + j) = σ (b + 13) (40 * i1 + j))) → (∀ j : Int, j < 40 * i1 ∨ 40 * i1 + 40 ≤ j → τ (b + 13) j = σ (b + 13) j) → (∀ j : Int, j < 40 * i1 ∨ 40 * i1 + 40 ≤ j → τ (b + 14) j = σ (b + 14) j) → (∀ a : Nat, a ≠ b + 13 → a ≠ b + 14 → τ a = σ a) → At x v A Q 10 243 [(0, .ref (vq v b)), (1, vI i1), (2, vI b1), (3, vI n1), (4, vI d1)] [] τ) : At x v A Q 10 77 [(0, .ref (vq v b)), (1, vI i1), (2, vI b1), (3, vI n1), (4, vI d1)] [] σ := by
  have iX7 : ∀ w ∈ wsX70, w ∈ wsX7_make := by decide +kernel
  have k54 : Cond.fieldLink RX7 54 (TX7 16).1 (TX7 16).2.1 (TX7 16).2.2.1 ∈ wsX7_make := by decide +kernel
  have k51 : Cond.fieldLink RX7 51 (TX7 15).1 (TX7 15).2.1 (TX7 15).2.2.1 ∈ wsX7_make := by decide +kernel
  have k24 : Cond.fieldLink RX7 24 (TX7 6).1 (TX7 6).2.1 (TX7 6).2.2.1 ∈ wsX7_make := by decide +kernel
  have k30 : Cond.fieldLink RX7 30 (TX7 8).1 (TX7 8).2.1 (TX7 8).2.2.1 ∈ wsX7_make := by decide +kernel
  have lpK : ∀ (n : Nat) (k1 : Int) (τ : Mem) , (8 - k1).toNat = n → (0 ≤ k1 ∧ k1 ≤ 8) → hvI (σ (b + 13)) τ b i1 (σ (b + 6) i1) n1 d1 k1 (shR (σ (b + 4)) (40 * i1)) → (∀ j : Int, j < 40 * i1 ∨ 40 * i1 + 40 ≤ j → τ (b + 13) j = σ (b + 13) j) → (∀ j : Int, j < 40 * i1 ∨ 40 * i1 + 40 ≤ j → τ (b + 14) j = σ (b + 14) j) → (∀ a : Nat, a ≠ b + 13 → a ≠ b + 14 → τ a = σ a) → At x v A Q 10 80 [(5, vI k1), (0, .ref (vq v b)), (1, vI i1), (2, vI b1), (3, vI n1), (4, vI d1)] [] τ := by
    intro n
    induction n using Nat.strongRecOn with
    | _ n ih =>
      intro k1 τ hn ik iH iO3 iO4 iF
      refine a_iload C dX7_make_80 0 rfl ?_
      refine a_bipush C dX7_make_82 ?_
      refine a_icmp_ge C 243 (by omega) (by decide) dX7_make_84 (by decide) (fun c84 => ?_) (fun c84 => ?_)
      · skip
        refine a_sub [1, 2, 3, 4, 5] [(0, .ref (vq v b)), (1, vI i1), (2, vI b1), (3, vI n1), (4, vI d1)] rfl ?_
        exact k τ (hvI_h iH (by omega) (fun j q1 q2 => (hT j q1 q2).1) (by first | (left; omega) | (right; omega))) iO3 iO4 iF
      · skip
        refine a_iconst C dX7_make_87 ?_
        refine a_istore C [(6, vI (-1)), (5, vI k1), (0, .ref (vq v b)), (1, vI i1), (2, vI b1), (3, vI n1), (4, vI d1)] dX7_make_88 (by decide) rfl ?_
        refine a_iconst C dX7_make_90 ?_
        refine a_istore C [(7, vI 0), (6, vI (-1)), (5, vI k1), (0, .ref (vq v b)), (1, vI i1), (2, vI b1), (3, vI n1), (4, vI d1)] dX7_make_91 (by decide) rfl ?_
        have ihK := ih
        have lpV : ∀ (n : Nat) (w1 m1_ : Int) , (40 - w1).toNat = n → (0 ≤ w1 ∧ w1 ≤ 40) → (-1 ≤ m1_ ∧ m1_ < 40) → itrR (mbF (shR (τ (b + 14)) (40 * i1)) (shR (σ (b + 4)) (40 * i1)) (σ (b + 6) i1) n1 d1) w1 40 m1_ = mbV (shR (τ (b + 14)) (40 * i1)) (shR (σ (b + 4)) (40 * i1)) (σ (b + 6) i1) n1 d1 → At x v A Q 10 93 [(7, vI w1), (6, vI m1_), (5, vI k1), (0, .ref (vq v b)), (1, vI i1), (2, vI b1), (3, vI n1), (4, vI d1)] [] τ := by
          intro n
          induction n using Nat.strongRecOn with
          | _ n ih =>
            intro w1 m1_ hn jw jb jm
            refine a_iload C dX7_make_93 0 rfl ?_
            refine a_bipush C dX7_make_95 ?_
            refine a_icmp_ge C 191 (by omega) (by decide) dX7_make_97 (by decide) (fun c97 => ?_) (fun c97 => ?_)
            · skip
              refine a_sub [1, 2, 3, 4, 5, 6, 7] [(6, vI m1_), (5, vI k1), (0, .ref (vq v b)), (1, vI i1), (2, vI b1), (3, vI n1), (4, vI d1)] rfl ?_
              have hw40 : w1 = 40 := by omega
              subst hw40
              rw [itrR_nil (by omega)] at jm
              refine a_iload C dX7_make_191 0 rfl ?_
              refine a_iconst C dX7_make_193 ?_
              refine a_icmp_ne C 200 (by omega) (by decide) dX7_make_194 (by decide) (fun c194 => ?_) (fun c194 => ?_)
              · skip
                refine a_aload_n C dX7_make_200 2 rfl rfl ?_
                refine a_getf C hM.f0 hM.n0 (Cn := RX7) (T := TX7) (N := 30) rfl iX7 16 (by decide) k54 (w := .ref (vq v (b + 14))) rfl dX7_make_201 ?_
                refine a_bipush C dX7_make_204 ?_
                refine a_iload_n C dX7_make_206 3 rfl rfl ?_
                refine a_imul C dX7_make_207 ?_
                refine a_iload C dX7_make_208 0 rfl ?_
                refine a_iadd C dX7_make_210 ?_
                refine a_iconst C dX7_make_211 ?_
                refine a_zast C hM.f14 hM.n14 2 hM.tB (by omega) (by omega) (by decide) (by omega) dX7_make_212 ?_
                refine a_aload_n C dX7_make_213 2 rfl rfl ?_
                refine a_getf C hM.f0 hM.n0 (Cn := RX7) (T := TX7) (N := 30) rfl iX7 15 (by decide) k51 (w := .ref (vq v (b + 13))) rfl dX7_make_214 ?_
                refine a_bipush C dX7_make_217 ?_
                refine a_iload_n C dX7_make_219 3 rfl rfl ?_
                refine a_imul C dX7_make_220 ?_
                refine a_iload C dX7_make_221 0 rfl ?_
                refine a_iadd C dX7_make_223 ?_
                refine a_aload_n C dX7_make_224 2 rfl rfl ?_
                refine a_getf C hM.f0 hM.n0 (Cn := RX7) (T := TX7) (N := 30) rfl iX7 6 (by decide) k24 (w := .ref (vq v (b + 4))) rfl dX7_make_225 ?_
                refine a_bipush C dX7_make_228 ?_
                refine a_iload_n C dX7_make_230 3 rfl rfl ?_
                refine a_imul C dX7_make_231 ?_
                refine a_iload C dX7_make_232 0 rfl ?_
                refine a_iadd C dX7_make_234 ?_
                refine a_iald C hM.f4 hM.n4 0 hM.tI (by omega) (by omega) (by decide) dX7_make_235 (fun z235 e235 r235 => ?_)
                try simp [sput_r, mset_n, sput, mset] at e235
                rw [iF (b + 4) (by omega) (by omega), shR_i (σ (b + 4)) (40 * i1) m1_ _ rfl] at e235
                have b235 := hT m1_ (by omega) (by omega)
                rw [← e235] at b235
                refine a_iast C hM.f13 hM.n13 0 hM.tI (by omega) (by omega) (by decide) r235 dX7_make_236 ?_
                refine a_iinc C (k1 + 1) [(5, vI (k1 + 1)), (6, vI m1_), (0, .ref (vq v b)), (1, vI i1), (2, vI b1), (3, vI n1), (4, vI d1)] dX7_make_237 1 rfl (by omega) (by decide) rfl ?_
                refine a_goto C 80 dX7_make_240 (by decide) ?_
                refine a_sub [0, 2, 3, 4, 5, 6] [(5, vI (k1 + 1)), (0, .ref (vq v b)), (1, vI i1), (2, vI b1), (3, vI n1), (4, vI d1)] rfl ?_
                refine ihK _ (by omega) (k1 + 1) _ rfl (by omega) ?_ (fun j q => by rw [sput_j _ _ _ _ _ (by omega), sput_r (by omega)]; exact iO3 j q) (fun j q => by rw [sput_r (by omega), sput_j _ _ _ _ _ (by omega)]; exact iO4 j q) (fun a q1 q2 => by rw [sput_r q1, sput_r q2]; exact iF a q1 q2)
                exact hvI_go iH (by omega) (fun j q1 q2 => (hT j q1 q2).1) (by omega) jm (by omega) (fun j q => by rw [sput_r (by omega), sput_j _ _ _ _ _ (by omega)]) (fun j q => by rw [sput_j _ _ _ _ _ (by omega), sput_r (by omega)]) (by rw [sput_r (by omega), sput_s]) (by rw [sput_s]; exact e235)
              · skip
                refine a_goto C 243 dX7_make_197 (by decide) ?_
                refine a_sub [2, 3, 4, 5, 6] [(0, .ref (vq v b)), (1, vI i1), (2, vI b1), (3, vI n1), (4, vI d1)] rfl ?_
                exact k τ (hvI_h iH (by omega) (fun j q1 q2 => (hT j q1 q2).1) (by first | (left; omega) | (right; omega))) iO3 iO4 iF
            · skip
              refine a_aload_n C dX7_make_100 3 rfl rfl ?_
              refine a_getf C hM.f0 hM.n0 (Cn := RX7) (T := TX7) (N := 30) rfl iX7 6 (by decide) k24 (w := .ref (vq v (b + 4))) rfl dX7_make_101 ?_
              refine a_bipush C dX7_make_104 ?_
              refine a_iload_n C dX7_make_106 4 rfl rfl ?_
              refine a_imul C dX7_make_107 ?_
              refine a_iload C dX7_make_108 0 rfl ?_
              refine a_iadd C dX7_make_110 ?_
              refine a_iald C hM.f4 hM.n4 0 hM.tI (by omega) (by omega) (by decide) dX7_make_111 (fun z111 e111 r111 => ?_)
              rw [iF (b + 4) (by omega) (by omega), shR_i (σ (b + 4)) (40 * i1) w1 _ rfl] at e111
              have b111 := hT w1 (by omega) (by omega)
              rw [← e111] at b111
              refine a_istore C [(8, vI z111), (7, vI w1), (6, vI m1_), (5, vI k1), (0, .ref (vq v b)), (1, vI i1), (2, vI b1), (3, vI n1), (4, vI d1)] dX7_make_112 (by decide) rfl ?_
              refine a_iload C dX7_make_114 0 rfl ?_
              refine a_if_eq C 185 r111 dX7_make_116 (by decide) (fun c116 => ?_) (fun c116 => ?_)
              · skip
                refine a_iinc C (w1 + 1) [(7, vI (w1 + 1)), (8, vI z111), (6, vI m1_), (5, vI k1), (0, .ref (vq v b)), (1, vI i1), (2, vI b1), (3, vI n1), (4, vI d1)] dX7_make_185 1 rfl (by omega) (by decide) rfl ?_
                refine a_goto C 93 dX7_make_188 (by decide) ?_
                refine a_sub [0, 2, 3, 4, 5, 6, 7, 8] [(7, vI (w1 + 1)), (6, vI m1_), (5, vI k1), (0, .ref (vq v b)), (1, vI i1), (2, vI b1), (3, vI n1), (4, vI d1)] rfl ?_
                refine ih _ (by omega) (w1 + 1) _ rfl (by omega) (by omega) ?_
                rw [← jm, itrR_step (a := w1) (by omega)]
                congr 1
                unfold mbF
                rw [← e111]
                first | (rw [if_pos (by first | (left; omega) | (right; left; rw [← e130]; omega) | (right; right; omega))]) | (rw [if_neg (by rintro (q | q | q); omega; (rw [← e130] at q; omega); omega)]; first | (rw [if_pos (by first | (left; omega) | (right; rw [← e177]; omega))]) | (rw [if_neg (by rintro (q | q); omega; (rw [← e177] at q; omega))]))
              · skip
                refine a_aload_n C dX7_make_119 4 rfl rfl ?_
                refine a_getf C hM.f0 hM.n0 (Cn := RX7) (T := TX7) (N := 30) rfl iX7 16 (by decide) k54 (w := .ref (vq v (b + 14))) rfl dX7_make_120 ?_
                refine a_bipush C dX7_make_123 ?_
                refine a_iload_n C dX7_make_125 5 rfl rfl ?_
                refine a_imul C dX7_make_126 ?_
                refine a_iload C dX7_make_127 1 rfl ?_
                refine a_iadd C dX7_make_129 ?_
                refine a_zald C hM.f14 hM.n14 2 hM.tB (by omega) (by omega) (by decide) dX7_make_130 (fun z130 e130 r130 => ?_)
                rw [shR_i (τ (b + 14)) (40 * i1) w1 _ rfl] at e130
                refine a_if_ne C 185 r130 dX7_make_131 (by decide) (fun c131 => ?_) (fun c131 => ?_)
                · skip
                  refine a_iinc C (w1 + 1) [(7, vI (w1 + 1)), (8, vI z111), (6, vI m1_), (5, vI k1), (0, .ref (vq v b)), (1, vI i1), (2, vI b1), (3, vI n1), (4, vI d1)] dX7_make_185 1 rfl (by omega) (by decide) rfl ?_
                  refine a_goto C 93 dX7_make_188 (by decide) ?_
                  refine a_sub [0, 2, 3, 4, 5, 6, 7, 8] [(7, vI (w1 + 1)), (6, vI m1_), (5, vI k1), (0, .ref (vq v b)), (1, vI i1), (2, vI b1), (3, vI n1), (4, vI d1)] rfl ?_
                  refine ih _ (by omega) (w1 + 1) _ rfl (by omega) (by omega) ?_
                  rw [← jm, itrR_step (a := w1) (by omega)]
                  congr 1
                  unfold mbF
                  rw [← e111]
                  first | (rw [if_pos (by first | (left; omega) | (right; left; rw [← e130]; omega) | (right; right; omega))]) | (rw [if_neg (by rintro (q | q | q); omega; (rw [← e130] at q; omega); omega)]; first | (rw [if_pos (by first | (left; omega) | (right; rw [← e177]; omega))]) | (rw [if_neg (by rintro (q | q); omega; (rw [← e177] at q; omega))]))
                · skip
                  refine a_iload C dX7_make_134 0 rfl ?_
                  refine a_i2l C r111 dX7_make_136 ?_
                  refine a_iload C dX7_make_137 8 rfl ?_
                  refine a_i2l C (by omega) dX7_make_139 ?_
                  refine a_lmul C dX7_make_140 ?_
                  refine a_aload_n C dX7_make_141 4 rfl rfl ?_
                  refine a_getf C hM.f0 hM.n0 (Cn := RX7) (T := TX7) (N := 30) rfl iX7 8 (by decide) k30 (w := .ref (vq v (b + 6))) rfl dX7_make_142 ?_
                  refine a_iload_n C dX7_make_145 5 rfl rfl ?_
                  refine a_iald C hM.f6 hM.n6 0 hM.tI (by omega) (by omega) (by decide) dX7_make_146 (fun z146 e146 r146 => ?_)
                  rw [iF (b + 6) (by omega) (by omega)] at e146
                  refine a_i2l C r146 dX7_make_147 ?_
                  refine a_iload_n C dX7_make_148 7 rfl rfl ?_
                  refine a_i2l C (by omega) dX7_make_149 ?_
                  refine a_lmul C dX7_make_150 ?_
                  have m1 := mul_bd (a := z111) (b := d1) (A := 10000) (B := 1000) (by omega) (by omega) (by omega) (by omega) (by decide)
                  have m2 := mul_bd (a := σ (b + 6) i1) (b := n1) (A := 10000) (B := 1000) (by omega) (by omega) (by omega) (by omega) (by decide)
                  rw [e146]
                  refine a_lcmp C (by omega) (by omega) dX7_make_151 (fun z151 e151 r151 => ?_)
                  refine a_if_ge C 158 r151 dX7_make_152 (by decide) (fun c152 => ?_) (fun c152 => ?_)
                  · skip
                    refine a_iload C dX7_make_158 2 rfl ?_
                    refine a_iconst C dX7_make_160 ?_
                    refine a_icmp_eq C 181 (by omega) (by decide) dX7_make_161 (by decide) (fun c161 => ?_) (fun c161 => ?_)
                    · skip
                      refine a_iload C dX7_make_181 1 rfl ?_
                      refine a_istore C [(6, vI w1), (8, vI z111), (7, vI w1), (5, vI k1), (0, .ref (vq v b)), (1, vI i1), (2, vI b1), (3, vI n1), (4, vI d1)] dX7_make_183 (by decide) rfl ?_
                      refine a_iinc C (w1 + 1) [(7, vI (w1 + 1)), (6, vI w1), (8, vI z111), (5, vI k1), (0, .ref (vq v b)), (1, vI i1), (2, vI b1), (3, vI n1), (4, vI d1)] dX7_make_185 2 rfl (by omega) (by decide) rfl ?_
                      refine a_goto C 93 dX7_make_188 (by decide) ?_
                      refine a_sub [0, 1, 3, 4, 5, 6, 7, 8] [(7, vI (w1 + 1)), (6, vI w1), (5, vI k1), (0, .ref (vq v b)), (1, vI i1), (2, vI b1), (3, vI n1), (4, vI d1)] rfl ?_
                      refine ih _ (by omega) (w1 + 1) _ rfl (by omega) (by omega) ?_
                      rw [← jm, itrR_step (a := w1) (by omega)]
                      congr 1
                      unfold mbF
                      rw [← e111]
                      first | (rw [if_pos (by first | (left; omega) | (right; left; rw [← e130]; omega) | (right; right; omega))]) | (rw [if_neg (by rintro (q | q | q); omega; (rw [← e130] at q; omega); omega)]; first | (rw [if_pos (by first | (left; omega) | (right; rw [← e177]; omega))]) | (rw [if_neg (by rintro (q | q); omega; (rw [← e177] at q; omega))]))
                    · skip
                      refine a_iload C dX7_make_164 0 rfl ?_
                      refine a_aload_n C dX7_make_166 4 rfl rfl ?_
                      refine a_getf C hM.f0 hM.n0 (Cn := RX7) (T := TX7) (N := 30) rfl iX7 6 (by decide) k24 (w := .ref (vq v (b + 4))) rfl dX7_make_167 ?_
                      refine a_bipush C dX7_make_170 ?_
                      refine a_iload_n C dX7_make_172 5 rfl rfl ?_
                      refine a_imul C dX7_make_173 ?_
                      refine a_iload C dX7_make_174 2 rfl ?_
                      refine a_iadd C dX7_make_176 ?_
                      refine a_iald C hM.f4 hM.n4 0 hM.tI (by omega) (by omega) (by decide) dX7_make_177 (fun z177 e177 r177 => ?_)
                      rw [iF (b + 4) (by omega) (by omega), shR_i (σ (b + 4)) (40 * i1) m1_ _ rfl] at e177
                      refine a_icmp_le C 185 r111 r177 dX7_make_178 (by decide) (fun c178 => ?_) (fun c178 => ?_)
                      · skip
                        refine a_iinc C (w1 + 1) [(7, vI (w1 + 1)), (8, vI z111), (6, vI m1_), (5, vI k1), (0, .ref (vq v b)), (1, vI i1), (2, vI b1), (3, vI n1), (4, vI d1)] dX7_make_185 1 rfl (by omega) (by decide) rfl ?_
                        refine a_goto C 93 dX7_make_188 (by decide) ?_
                        refine a_sub [0, 2, 3, 4, 5, 6, 7, 8] [(7, vI (w1 + 1)), (6, vI m1_), (5, vI k1), (0, .ref (vq v b)), (1, vI i1), (2, vI b1), (3, vI n1), (4, vI d1)] rfl ?_
                        refine ih _ (by omega) (w1 + 1) _ rfl (by omega) (by omega) ?_
                        rw [← jm, itrR_step (a := w1) (by omega)]
                        congr 1
                        unfold mbF
                        rw [← e111]
                        first | (rw [if_pos (by first | (left; omega) | (right; left; rw [← e130]; omega) | (right; right; omega))]) | (rw [if_neg (by rintro (q | q | q); omega; (rw [← e130] at q; omega); omega)]; first | (rw [if_pos (by first | (left; omega) | (right; rw [← e177]; omega))]) | (rw [if_neg (by rintro (q | q); omega; (rw [← e177] at q; omega))]))
                      · skip
                        refine a_iload C dX7_make_181 1 rfl ?_
                        refine a_istore C [(6, vI w1), (8, vI z111), (7, vI w1), (5, vI k1), (0, .ref (vq v b)), (1, vI i1), (2, vI b1), (3, vI n1), (4, vI d1)] dX7_make_183 (by decide) rfl ?_
                        refine a_iinc C (w1 + 1) [(7, vI (w1 + 1)), (6, vI w1), (8, vI z111), (5, vI k1), (0, .ref (vq v b)), (1, vI i1), (2, vI b1), (3, vI n1), (4, vI d1)] dX7_make_185 2 rfl (by omega) (by decide) rfl ?_
                        refine a_goto C 93 dX7_make_188 (by decide) ?_
                        refine a_sub [0, 1, 3, 4, 5, 6, 7, 8] [(7, vI (w1 + 1)), (6, vI w1), (5, vI k1), (0, .ref (vq v b)), (1, vI i1), (2, vI b1), (3, vI n1), (4, vI d1)] rfl ?_
                        refine ih _ (by omega) (w1 + 1) _ rfl (by omega) (by omega) ?_
                        rw [← jm, itrR_step (a := w1) (by omega)]
                        congr 1
                        unfold mbF
                        rw [← e111]
                        first | (rw [if_pos (by first | (left; omega) | (right; left; rw [← e130]; omega) | (right; right; omega))]) | (rw [if_neg (by rintro (q | q | q); omega; (rw [← e130] at q; omega); omega)]; first | (rw [if_pos (by first | (left; omega) | (right; rw [← e177]; omega))]) | (rw [if_neg (by rintro (q | q); omega; (rw [← e177] at q; omega))]))
                  · skip
                    refine a_goto C 185 dX7_make_155 (by decide) ?_
                    refine a_iinc C (w1 + 1) [(7, vI (w1 + 1)), (8, vI z111), (6, vI m1_), (5, vI k1), (0, .ref (vq v b)), (1, vI i1), (2, vI b1), (3, vI n1), (4, vI d1)] dX7_make_185 1 rfl (by omega) (by decide) rfl ?_
                    refine a_goto C 93 dX7_make_188 (by decide) ?_
                    refine a_sub [0, 2, 3, 4, 5, 6, 7, 8] [(7, vI (w1 + 1)), (6, vI m1_), (5, vI k1), (0, .ref (vq v b)), (1, vI i1), (2, vI b1), (3, vI n1), (4, vI d1)] rfl ?_
                    refine ih _ (by omega) (w1 + 1) _ rfl (by omega) (by omega) ?_
                    rw [← jm, itrR_step (a := w1) (by omega)]
                    congr 1
                    unfold mbF
                    rw [← e111]
                    first | (rw [if_pos (by first | (left; omega) | (right; left; rw [← e130]; omega) | (right; right; omega))]) | (rw [if_neg (by rintro (q | q | q); omega; (rw [← e130] at q; omega); omega)]; first | (rw [if_pos (by first | (left; omega) | (right; rw [← e177]; omega))]) | (rw [if_neg (by rintro (q | q); omega; (rw [← e177] at q; omega))]))
        exact lpV _ 0 (-1) rfl (by omega) (by omega) rfl
  refine a_iconst C dX7_make_77 ?_
  refine a_istore C [(5, vI 0), (0, .ref (vq v b)), (1, vI i1), (2, vI b1), (3, vI n1), (4, vI d1)] dX7_make_78 (by decide) rfl ?_
  exact lpK _ 0 σ rfl (by omega) ⟨(fun _ => 0, fun _ => 0), fun j q1 q2 => ⟨hz j q1 q2, fun q => absurd rfl q, fun _ => rfl⟩, rfl⟩ (fun _ _ => rfl) (fun _ _ => rfl) (fun _ _ _ => rfl)
