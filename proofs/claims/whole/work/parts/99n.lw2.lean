set_option maxRecDepth 100000 in
theorem lw_first {l : Launch} {G : Gw} {post : Option Value → Sg → Prop} {Φ : Ph} {b L : Nat} {xs : Nat → Int32} {i : Int32} {σ : Sg} (MX : MachX l G 8 198 post Φ b L xs) (hL : L < 2147483648) (hR : Rel σ) (hb : ∀ j : Nat, j < 7 → 0 ≤ i + nI j ∧ i + nI j < nI L) (ih : ∀ τ : Sg, Rel τ → Φ 1514 [some (.ref b), some (.ref (ad G 0 0)), some (.ref (ad G 40 0)), some (.int i)] [] τ) : Φ 814 [some (.ref b), some (.ref (ad G 0 0)), some (.ref (ad G 40 0)), some (.int i)] [] σ := by
  have M := MX.m
  have b1 : 0 ≤ i + 1 := (hb 1 (by omega)).1
  have d1 : i + 1 < nI L := (hb 1 (by omega)).2
  have b2 : 0 ≤ i + 2 := (hb 2 (by omega)).1
  have d2 : i + 2 < nI L := (hb 2 (by omega)).2
  have b3 : 0 ≤ i + 3 := (hb 3 (by omega)).1
  have d3 : i + 3 < nI L := (hb 3 (by omega)).2
  have b4 : 0 ≤ i + 4 := (hb 4 (by omega)).1
  have d4 : i + 4 < nI L := (hb 4 (by omega)).2
  have b5 : 0 ≤ i + 5 := (hb 5 (by omega)).1
  have d5 : i + 5 < nI L := (hb 5 (by omega)).2
  have b6 : 0 ≤ i + 6 := (hb 6 (by omega)).1
  have d6 : i + 6 < nI L := (hb 6 (by omega)).2
  refine j_aload_n M dL_law_814 rfl ?_
  refine j_aload_n M dL_law_815 rfl ?_
  refine j_iload_n M dL_law_816 rfl ?_
  refine j_iconst (v := 1) M dL_law_817 rfl ?_
  refine j_iadd M dL_law_818 ?_
  refine j_sld MX hL dL_law_819 b1 d1 ?_
  refine j_inv1 M lk_L_98 (c_X6_first (hR.S) (hR.L)) rv_X6 dL_law_820 (Nat.le_of_ble_eq_true rfl) ⟨(Nat.le_of_ble_eq_true rfl), (Nat.le_of_ble_eq_true rfl)⟩ (kI fun r_820 σ_820 q_820 => ?_)
  have t40 : σ_820 40 = σ 40 := k_first q_820
  refine j_aload_n M dL_law_823 rfl ?_
  refine j_aload_n M dL_law_824 rfl ?_
  refine j_iload_n M dL_law_825 rfl ?_
  refine j_iconst (v := 1) M dL_law_826 rfl ?_
  refine j_iadd M dL_law_827 ?_
  refine j_sld MX hL dL_law_828 b1 d1 ?_
  refine j_inv1 M lk_L_101 (c_X7_first ((by rw [t40]; exact fun h => hR.S.f h))) rv_X7 dL_law_829 (Nat.le_of_ble_eq_true rfl) ⟨(Nat.le_of_ble_eq_true rfl), (Nat.le_of_ble_eq_true rfl)⟩ (kI fun r_829 σ_829 q_829 => ?_)
  obtain ⟨er, hR2⟩ := st_first hR q_820 q_829
  refine j_icmp_eq (tgt := 1514) M dL_law_832 (by decide) (fun h_832 => ?_) (fun h_832 => ?_)
  · exact ih _ hR2
  · exact absurd er h_832
set_option maxRecDepth 100000 in
theorem lw_hole {l : Launch} {G : Gw} {post : Option Value → Sg → Prop} {Φ : Ph} {b L : Nat} {xs : Nat → Int32} {i : Int32} {σ : Sg} (MX : MachX l G 8 198 post Φ b L xs) (hL : L < 2147483648) (hR : Rel σ) (hb : ∀ j : Nat, j < 7 → 0 ≤ i + nI j ∧ i + nI j < nI L) (ih : ∀ τ : Sg, Rel τ → Φ 1514 [some (.ref b), some (.ref (ad G 0 0)), some (.ref (ad G 40 0)), some (.int i)] [] τ) : Φ 837 [some (.ref b), some (.ref (ad G 0 0)), some (.ref (ad G 40 0)), some (.int i)] [] σ := by
  have M := MX.m
  have b1 : 0 ≤ i + 1 := (hb 1 (by omega)).1
  have d1 : i + 1 < nI L := (hb 1 (by omega)).2
  have b2 : 0 ≤ i + 2 := (hb 2 (by omega)).1
  have d2 : i + 2 < nI L := (hb 2 (by omega)).2
  have b3 : 0 ≤ i + 3 := (hb 3 (by omega)).1
  have d3 : i + 3 < nI L := (hb 3 (by omega)).2
  have b4 : 0 ≤ i + 4 := (hb 4 (by omega)).1
  have d4 : i + 4 < nI L := (hb 4 (by omega)).2
  have b5 : 0 ≤ i + 5 := (hb 5 (by omega)).1
  have d5 : i + 5 < nI L := (hb 5 (by omega)).2
  have b6 : 0 ≤ i + 6 := (hb 6 (by omega)).1
  have d6 : i + 6 < nI L := (hb 6 (by omega)).2
  refine j_aload_n M dL_law_837 rfl ?_
  refine j_aload_n M dL_law_838 rfl ?_
  refine j_iload_n M dL_law_839 rfl ?_
  refine j_iconst (v := 1) M dL_law_840 rfl ?_
  refine j_iadd M dL_law_841 ?_
  refine j_sld MX hL dL_law_842 b1 d1 ?_
  refine j_aload_n M dL_law_843 rfl ?_
  refine j_iload_n M dL_law_844 rfl ?_
  refine j_iconst (v := 2) M dL_law_845 rfl ?_
  refine j_iadd M dL_law_846 ?_
  refine j_sld MX hL dL_law_847 b2 d2 ?_
  refine j_inv2 M lk_L_102 (c_X6_hole (h := σ 40 8) hR.S hR.L) rv_X6 dL_law_848 (Nat.le_of_ble_eq_true rfl) ⟨(Nat.le_of_ble_eq_true rfl), (Nat.le_of_ble_eq_true rfl)⟩ (kI fun r_848 σ_848 q_848 => ?_)
  have t40 : σ_848 40 = σ 40 := k_hole q_848
  refine j_aload_n M dL_law_851 rfl ?_
  refine j_aload_n M dL_law_852 rfl ?_
  refine j_iload_n M dL_law_853 rfl ?_
  refine j_iconst (v := 1) M dL_law_854 rfl ?_
  refine j_iadd M dL_law_855 ?_
  refine j_sld MX hL dL_law_856 b1 d1 ?_
  refine j_aload_n M dL_law_857 rfl ?_
  refine j_iload_n M dL_law_858 rfl ?_
  refine j_iconst (v := 2) M dL_law_859 rfl ?_
  refine j_iadd M dL_law_860 ?_
  refine j_sld MX hL dL_law_861 b2 d2 ?_
  refine j_inv2 M lk_L_105 (c_X7_hole ((by rw [t40]; exact hR.S.w))) rv_X7 dL_law_862 (Nat.le_of_ble_eq_true rfl) ⟨(Nat.le_of_ble_eq_true rfl), (Nat.le_of_ble_eq_true rfl)⟩ (kI fun r_862 σ_862 q_862 => ?_)
  obtain ⟨er, hR2⟩ := st_hole hR q_848 q_862
  refine j_icmp_eq (tgt := 1514) M dL_law_865 (by decide) (fun h_865 => ?_) (fun h_865 => ?_)
  · exact ih _ hR2
  · exact absurd er h_865
set_option maxRecDepth 100000 in
theorem lw_order {l : Launch} {G : Gw} {post : Option Value → Sg → Prop} {Φ : Ph} {b L : Nat} {xs : Nat → Int32} {i : Int32} {σ : Sg} (MX : MachX l G 8 198 post Φ b L xs) (hL : L < 2147483648) (hR : Rel σ) (hb : ∀ j : Nat, j < 7 → 0 ≤ i + nI j ∧ i + nI j < nI L) (ih : ∀ τ : Sg, Rel τ → Φ 1514 [some (.ref b), some (.ref (ad G 0 0)), some (.ref (ad G 40 0)), some (.int i)] [] τ) : Φ 870 [some (.ref b), some (.ref (ad G 0 0)), some (.ref (ad G 40 0)), some (.int i)] [] σ := by
  have M := MX.m
  have b1 : 0 ≤ i + 1 := (hb 1 (by omega)).1
  have d1 : i + 1 < nI L := (hb 1 (by omega)).2
  have b2 : 0 ≤ i + 2 := (hb 2 (by omega)).1
  have d2 : i + 2 < nI L := (hb 2 (by omega)).2
  have b3 : 0 ≤ i + 3 := (hb 3 (by omega)).1
  have d3 : i + 3 < nI L := (hb 3 (by omega)).2
  have b4 : 0 ≤ i + 4 := (hb 4 (by omega)).1
  have d4 : i + 4 < nI L := (hb 4 (by omega)).2
  have b5 : 0 ≤ i + 5 := (hb 5 (by omega)).1
  have d5 : i + 5 < nI L := (hb 5 (by omega)).2
  have b6 : 0 ≤ i + 6 := (hb 6 (by omega)).1
  have d6 : i + 6 < nI L := (hb 6 (by omega)).2
  refine j_aload_n M dL_law_870 rfl ?_
  refine j_aload_n M dL_law_871 rfl ?_
  refine j_iload_n M dL_law_872 rfl ?_
  refine j_iconst (v := 1) M dL_law_873 rfl ?_
  refine j_iadd M dL_law_874 ?_
  refine j_sld MX hL dL_law_875 b1 d1 ?_
  refine j_aload_n M dL_law_876 rfl ?_
  refine j_iload_n M dL_law_877 rfl ?_
  refine j_iconst (v := 2) M dL_law_878 rfl ?_
  refine j_iadd M dL_law_879 ?_
  refine j_sld MX hL dL_law_880 b2 d2 ?_
  refine j_aload_n M dL_law_881 rfl ?_
  refine j_iload_n M dL_law_882 rfl ?_
  refine j_iconst (v := 3) M dL_law_883 rfl ?_
  refine j_iadd M dL_law_884 ?_
  refine j_sld MX hL dL_law_885 b3 d3 ?_
  refine j_inv3 M lk_L_106 (c_X6_order (hR.S) (hR.L)) rv_X6 dL_law_886 (Nat.le_of_ble_eq_true rfl) ⟨(Nat.le_of_ble_eq_true rfl), (Nat.le_of_ble_eq_true rfl)⟩ (kI fun r_886 σ_886 q_886 => ?_)
  have t40 : σ_886 40 = σ 40 := k_order q_886
  refine j_aload_n M dL_law_889 rfl ?_
  refine j_aload_n M dL_law_890 rfl ?_
  refine j_iload_n M dL_law_891 rfl ?_
  refine j_iconst (v := 1) M dL_law_892 rfl ?_
  refine j_iadd M dL_law_893 ?_
  refine j_sld MX hL dL_law_894 b1 d1 ?_
  refine j_aload_n M dL_law_895 rfl ?_
  refine j_iload_n M dL_law_896 rfl ?_
  refine j_iconst (v := 2) M dL_law_897 rfl ?_
  refine j_iadd M dL_law_898 ?_
  refine j_sld MX hL dL_law_899 b2 d2 ?_
  refine j_aload_n M dL_law_900 rfl ?_
  refine j_iload_n M dL_law_901 rfl ?_
  refine j_iconst (v := 3) M dL_law_902 rfl ?_
  refine j_iadd M dL_law_903 ?_
  refine j_sld MX hL dL_law_904 b3 d3 ?_
  refine j_inv3 M lk_L_109 (c_X7_order ((by rw [t40]; exact fun h => hR.S.f h))) rv_X7 dL_law_905 (Nat.le_of_ble_eq_true rfl) ⟨(Nat.le_of_ble_eq_true rfl), (Nat.le_of_ble_eq_true rfl)⟩ (kI fun r_905 σ_905 q_905 => ?_)
  obtain ⟨er, hR2⟩ := st_order hR q_886 q_905
  refine j_icmp_eq (tgt := 1514) M dL_law_908 (by decide) (fun h_908 => ?_) (fun h_908 => ?_)
  · exact ih _ hR2
  · exact absurd er h_908
set_option maxRecDepth 100000 in
theorem lw_lamp {l : Launch} {G : Gw} {post : Option Value → Sg → Prop} {Φ : Ph} {b L : Nat} {xs : Nat → Int32} {i : Int32} {σ : Sg} (MX : MachX l G 8 198 post Φ b L xs) (hL : L < 2147483648) (hR : Rel σ) (hb : ∀ j : Nat, j < 7 → 0 ≤ i + nI j ∧ i + nI j < nI L) (ih : ∀ τ : Sg, Rel τ → Φ 1514 [some (.ref b), some (.ref (ad G 0 0)), some (.ref (ad G 40 0)), some (.int i)] [] τ) : Φ 913 [some (.ref b), some (.ref (ad G 0 0)), some (.ref (ad G 40 0)), some (.int i)] [] σ := by
  have M := MX.m
  have b1 : 0 ≤ i + 1 := (hb 1 (by omega)).1
  have d1 : i + 1 < nI L := (hb 1 (by omega)).2
  have b2 : 0 ≤ i + 2 := (hb 2 (by omega)).1
  have d2 : i + 2 < nI L := (hb 2 (by omega)).2
  have b3 : 0 ≤ i + 3 := (hb 3 (by omega)).1
  have d3 : i + 3 < nI L := (hb 3 (by omega)).2
  have b4 : 0 ≤ i + 4 := (hb 4 (by omega)).1
  have d4 : i + 4 < nI L := (hb 4 (by omega)).2
  have b5 : 0 ≤ i + 5 := (hb 5 (by omega)).1
  have d5 : i + 5 < nI L := (hb 5 (by omega)).2
  have b6 : 0 ≤ i + 6 := (hb 6 (by omega)).1
  have d6 : i + 6 < nI L := (hb 6 (by omega)).2
  refine j_aload_n M dL_law_913 rfl ?_
  refine j_aload_n M dL_law_914 rfl ?_
  refine j_iload_n M dL_law_915 rfl ?_
  refine j_iconst (v := 1) M dL_law_916 rfl ?_
  refine j_iadd M dL_law_917 ?_
  refine j_sld MX hL dL_law_918 b1 d1 ?_
  refine j_aload_n M dL_law_919 rfl ?_
  refine j_iload_n M dL_law_920 rfl ?_
  refine j_iconst (v := 2) M dL_law_921 rfl ?_
  refine j_iadd M dL_law_922 ?_
  refine j_sld MX hL dL_law_923 b2 d2 ?_
  refine j_aload_n M dL_law_924 rfl ?_
  refine j_iload_n M dL_law_925 rfl ?_
  refine j_iconst (v := 3) M dL_law_926 rfl ?_
  refine j_iadd M dL_law_927 ?_
  refine j_sld MX hL dL_law_928 b3 d3 ?_
  refine j_inv3 M lk_L_110 (c_X6_lamp (hR.S) (hR.L)) rv_X6 dL_law_929 (Nat.le_of_ble_eq_true rfl) ⟨(Nat.le_of_ble_eq_true rfl), (Nat.le_of_ble_eq_true rfl)⟩ (kI fun r_929 σ_929 q_929 => ?_)
  have t40 : σ_929 40 = σ 40 := k_lamp q_929
  refine j_aload_n M dL_law_932 rfl ?_
  refine j_aload_n M dL_law_933 rfl ?_
  refine j_iload_n M dL_law_934 rfl ?_
  refine j_iconst (v := 1) M dL_law_935 rfl ?_
  refine j_iadd M dL_law_936 ?_
  refine j_sld MX hL dL_law_937 b1 d1 ?_
  refine j_aload_n M dL_law_938 rfl ?_
  refine j_iload_n M dL_law_939 rfl ?_
  refine j_iconst (v := 2) M dL_law_940 rfl ?_
  refine j_iadd M dL_law_941 ?_
  refine j_sld MX hL dL_law_942 b2 d2 ?_
  refine j_aload_n M dL_law_943 rfl ?_
  refine j_iload_n M dL_law_944 rfl ?_
  refine j_iconst (v := 3) M dL_law_945 rfl ?_
  refine j_iadd M dL_law_946 ?_
  refine j_sld MX hL dL_law_947 b3 d3 ?_
  refine j_inv3 M lk_L_113 (c_X7_lamp ((by rw [t40]; exact hR.S.w))) rv_X7 dL_law_948 (Nat.le_of_ble_eq_true rfl) ⟨(Nat.le_of_ble_eq_true rfl), (Nat.le_of_ble_eq_true rfl)⟩ (kI fun r_948 σ_948 q_948 => ?_)
  obtain ⟨er, hR2⟩ := st_lamp hR q_929 q_948
  refine j_icmp_eq (tgt := 1514) M dL_law_951 (by decide) (fun h_951 => ?_) (fun h_951 => ?_)
  · exact ih _ hR2
  · exact absurd er h_951
set_option maxRecDepth 100000 in
theorem lw_caught {l : Launch} {G : Gw} {post : Option Value → Sg → Prop} {Φ : Ph} {b L : Nat} {xs : Nat → Int32} {i : Int32} {σ : Sg} (MX : MachX l G 8 198 post Φ b L xs) (hL : L < 2147483648) (hR : Rel σ) (hb : ∀ j : Nat, j < 7 → 0 ≤ i + nI j ∧ i + nI j < nI L) (ih : ∀ τ : Sg, Rel τ → Φ 1514 [some (.ref b), some (.ref (ad G 0 0)), some (.ref (ad G 40 0)), some (.int i)] [] τ) : Φ 956 [some (.ref b), some (.ref (ad G 0 0)), some (.ref (ad G 40 0)), some (.int i)] [] σ := by
  have M := MX.m
  have b1 : 0 ≤ i + 1 := (hb 1 (by omega)).1
  have d1 : i + 1 < nI L := (hb 1 (by omega)).2
  have b2 : 0 ≤ i + 2 := (hb 2 (by omega)).1
  have d2 : i + 2 < nI L := (hb 2 (by omega)).2
  have b3 : 0 ≤ i + 3 := (hb 3 (by omega)).1
  have d3 : i + 3 < nI L := (hb 3 (by omega)).2
  have b4 : 0 ≤ i + 4 := (hb 4 (by omega)).1
  have d4 : i + 4 < nI L := (hb 4 (by omega)).2
  have b5 : 0 ≤ i + 5 := (hb 5 (by omega)).1
  have d5 : i + 5 < nI L := (hb 5 (by omega)).2
  have b6 : 0 ≤ i + 6 := (hb 6 (by omega)).1
  have d6 : i + 6 < nI L := (hb 6 (by omega)).2
  refine j_aload_n M dL_law_956 rfl ?_
  refine j_aload_n M dL_law_957 rfl ?_
  refine j_iload_n M dL_law_958 rfl ?_
  refine j_iconst (v := 1) M dL_law_959 rfl ?_
  refine j_iadd M dL_law_960 ?_
  refine j_sld MX hL dL_law_961 b1 d1 ?_
  refine j_aload_n M dL_law_962 rfl ?_
  refine j_iload_n M dL_law_963 rfl ?_
  refine j_iconst (v := 2) M dL_law_964 rfl ?_
  refine j_iadd M dL_law_965 ?_
  refine j_sld MX hL dL_law_966 b2 d2 ?_
  refine j_aload_n M dL_law_967 rfl ?_
  refine j_iload_n M dL_law_968 rfl ?_
  refine j_iconst (v := 3) M dL_law_969 rfl ?_
  refine j_iadd M dL_law_970 ?_
  refine j_sld MX hL dL_law_971 b3 d3 ?_
  refine j_inv3 M lk_L_114 (c_X6_caught (hR.S) (hR.L)) rv_X6 dL_law_972 (Nat.le_of_ble_eq_true rfl) ⟨(Nat.le_of_ble_eq_true rfl), (Nat.le_of_ble_eq_true rfl)⟩ (kI fun r_972 σ_972 q_972 => ?_)
  have t40 : σ_972 40 = σ 40 := k_caught q_972
  refine j_aload_n M dL_law_975 rfl ?_
  refine j_aload_n M dL_law_976 rfl ?_
  refine j_iload_n M dL_law_977 rfl ?_
  refine j_iconst (v := 1) M dL_law_978 rfl ?_
  refine j_iadd M dL_law_979 ?_
  refine j_sld MX hL dL_law_980 b1 d1 ?_
  refine j_aload_n M dL_law_981 rfl ?_
  refine j_iload_n M dL_law_982 rfl ?_
  refine j_iconst (v := 2) M dL_law_983 rfl ?_
  refine j_iadd M dL_law_984 ?_
  refine j_sld MX hL dL_law_985 b2 d2 ?_
  refine j_aload_n M dL_law_986 rfl ?_
  refine j_iload_n M dL_law_987 rfl ?_
  refine j_iconst (v := 3) M dL_law_988 rfl ?_
  refine j_iadd M dL_law_989 ?_
  refine j_sld MX hL dL_law_990 b3 d3 ?_
  refine j_inv3 M lk_L_117 (c_X7_caught ((by rw [t40]; exact hR.S.w))) rv_X7 dL_law_991 (Nat.le_of_ble_eq_true rfl) ⟨(Nat.le_of_ble_eq_true rfl), (Nat.le_of_ble_eq_true rfl)⟩ (kI fun r_991 σ_991 q_991 => ?_)
  obtain ⟨er, hR2⟩ := st_caught hR q_972 q_991
  refine j_icmp_eq (tgt := 1514) M dL_law_994 (by decide) (fun h_994 => ?_) (fun h_994 => ?_)
  · exact ih _ hR2
  · exact absurd er h_994
set_option maxRecDepth 100000 in
theorem lw_grams {l : Launch} {G : Gw} {post : Option Value → Sg → Prop} {Φ : Ph} {b L : Nat} {xs : Nat → Int32} {i : Int32} {σ : Sg} (MX : MachX l G 8 198 post Φ b L xs) (hL : L < 2147483648) (hR : Rel σ) (hb : ∀ j : Nat, j < 7 → 0 ≤ i + nI j ∧ i + nI j < nI L) (ih : ∀ τ : Sg, Rel τ → Φ 1514 [some (.ref b), some (.ref (ad G 0 0)), some (.ref (ad G 40 0)), some (.int i)] [] τ) : Φ 999 [some (.ref b), some (.ref (ad G 0 0)), some (.ref (ad G 40 0)), some (.int i)] [] σ := by
  have M := MX.m
  have b1 : 0 ≤ i + 1 := (hb 1 (by omega)).1
  have d1 : i + 1 < nI L := (hb 1 (by omega)).2
  have b2 : 0 ≤ i + 2 := (hb 2 (by omega)).1
  have d2 : i + 2 < nI L := (hb 2 (by omega)).2
  have b3 : 0 ≤ i + 3 := (hb 3 (by omega)).1
  have d3 : i + 3 < nI L := (hb 3 (by omega)).2
  have b4 : 0 ≤ i + 4 := (hb 4 (by omega)).1
  have d4 : i + 4 < nI L := (hb 4 (by omega)).2
  have b5 : 0 ≤ i + 5 := (hb 5 (by omega)).1
  have d5 : i + 5 < nI L := (hb 5 (by omega)).2
  have b6 : 0 ≤ i + 6 := (hb 6 (by omega)).1
  have d6 : i + 6 < nI L := (hb 6 (by omega)).2
  refine j_aload_n M dL_law_999 rfl ?_
  refine j_aload_n M dL_law_1000 rfl ?_
  refine j_iload_n M dL_law_1001 rfl ?_
  refine j_iconst (v := 1) M dL_law_1002 rfl ?_
  refine j_iadd M dL_law_1003 ?_
  refine j_sld MX hL dL_law_1004 b1 d1 ?_
  refine j_aload_n M dL_law_1005 rfl ?_
  refine j_iload_n M dL_law_1006 rfl ?_
  refine j_iconst (v := 2) M dL_law_1007 rfl ?_
  refine j_iadd M dL_law_1008 ?_
  refine j_sld MX hL dL_law_1009 b2 d2 ?_
  refine j_inv2 M lk_L_118 (c_X6_grams (hR.S) (hR.L)) rv_X6 dL_law_1010 (Nat.le_of_ble_eq_true rfl) ⟨(Nat.le_of_ble_eq_true rfl), (Nat.le_of_ble_eq_true rfl)⟩ (kI fun r_1010 σ_1010 q_1010 => ?_)
  have t40 : σ_1010 40 = σ 40 := k_grams q_1010
  refine j_aload_n M dL_law_1013 rfl ?_
  refine j_aload_n M dL_law_1014 rfl ?_
  refine j_iload_n M dL_law_1015 rfl ?_
  refine j_iconst (v := 1) M dL_law_1016 rfl ?_
  refine j_iadd M dL_law_1017 ?_
  refine j_sld MX hL dL_law_1018 b1 d1 ?_
  refine j_aload_n M dL_law_1019 rfl ?_
  refine j_iload_n M dL_law_1020 rfl ?_
  refine j_iconst (v := 2) M dL_law_1021 rfl ?_
  refine j_iadd M dL_law_1022 ?_
  refine j_sld MX hL dL_law_1023 b2 d2 ?_
  refine j_inv2 M lk_L_121 (c_X7_grams ((by rw [t40]; exact hR.S.w))) rv_X7 dL_law_1024 (Nat.le_of_ble_eq_true rfl) ⟨(Nat.le_of_ble_eq_true rfl), (Nat.le_of_ble_eq_true rfl)⟩ (kI fun r_1024 σ_1024 q_1024 => ?_)
  obtain ⟨er, hR2⟩ := st_grams hR q_1010 q_1024
  refine j_icmp_eq (tgt := 1514) M dL_law_1027 (by decide) (fun h_1027 => ?_) (fun h_1027 => ?_)
  · exact ih _ hR2
  · exact absurd er h_1027
set_option maxRecDepth 100000 in
theorem lw_who {l : Launch} {G : Gw} {post : Option Value → Sg → Prop} {Φ : Ph} {b L : Nat} {xs : Nat → Int32} {i : Int32} {σ : Sg} (MX : MachX l G 8 198 post Φ b L xs) (hL : L < 2147483648) (hR : Rel σ) (hb : ∀ j : Nat, j < 7 → 0 ≤ i + nI j ∧ i + nI j < nI L) (ih : ∀ τ : Sg, Rel τ → Φ 1514 [some (.ref b), some (.ref (ad G 0 0)), some (.ref (ad G 40 0)), some (.int i)] [] τ) : Φ 1032 [some (.ref b), some (.ref (ad G 0 0)), some (.ref (ad G 40 0)), some (.int i)] [] σ := by
  have M := MX.m
  have b1 : 0 ≤ i + 1 := (hb 1 (by omega)).1
  have d1 : i + 1 < nI L := (hb 1 (by omega)).2
  have b2 : 0 ≤ i + 2 := (hb 2 (by omega)).1
  have d2 : i + 2 < nI L := (hb 2 (by omega)).2
  have b3 : 0 ≤ i + 3 := (hb 3 (by omega)).1
  have d3 : i + 3 < nI L := (hb 3 (by omega)).2
  have b4 : 0 ≤ i + 4 := (hb 4 (by omega)).1
  have d4 : i + 4 < nI L := (hb 4 (by omega)).2
  have b5 : 0 ≤ i + 5 := (hb 5 (by omega)).1
  have d5 : i + 5 < nI L := (hb 5 (by omega)).2
  have b6 : 0 ≤ i + 6 := (hb 6 (by omega)).1
  have d6 : i + 6 < nI L := (hb 6 (by omega)).2
  refine j_aload_n M dL_law_1032 rfl ?_
  refine j_aload_n M dL_law_1033 rfl ?_
  refine j_iload_n M dL_law_1034 rfl ?_
  refine j_iconst (v := 1) M dL_law_1035 rfl ?_
  refine j_iadd M dL_law_1036 ?_
  refine j_sld MX hL dL_law_1037 b1 d1 ?_
  refine j_aload_n M dL_law_1038 rfl ?_
  refine j_iload_n M dL_law_1039 rfl ?_
  refine j_iconst (v := 2) M dL_law_1040 rfl ?_
  refine j_iadd M dL_law_1041 ?_
  refine j_sld MX hL dL_law_1042 b2 d2 ?_
  refine j_aload_n M dL_law_1043 rfl ?_
  refine j_iload_n M dL_law_1044 rfl ?_
  refine j_iconst (v := 3) M dL_law_1045 rfl ?_
  refine j_iadd M dL_law_1046 ?_
  refine j_sld MX hL dL_law_1047 b3 d3 ?_
  refine j_aload_n M dL_law_1048 rfl ?_
  refine j_iload_n M dL_law_1049 rfl ?_
  refine j_iconst (v := 4) M dL_law_1050 rfl ?_
  refine j_iadd M dL_law_1051 ?_
  refine j_sld MX hL dL_law_1052 b4 d4 ?_
  refine j_aload_n M dL_law_1053 rfl ?_
  refine j_iload_n M dL_law_1054 rfl ?_
  refine j_iconst (v := 5) M dL_law_1055 rfl ?_
  refine j_iadd M dL_law_1056 ?_
  refine j_sld MX hL dL_law_1057 b5 d5 ?_
  refine j_aload_n M dL_law_1058 rfl ?_
  refine j_iload_n M dL_law_1059 rfl ?_
  refine j_bipush (v := 6) M dL_law_1060 rfl ?_
  refine j_iadd M dL_law_1062 ?_
  refine j_sld MX hL dL_law_1063 b6 d6 ?_
  refine j_inv6 M lk_L_122 (c_X6_who (hR.S) (hR.L) (hR.B)) rv_X6 dL_law_1064 (Nat.le_of_ble_eq_true rfl) ⟨(Nat.le_of_ble_eq_true rfl), (Nat.le_of_ble_eq_true rfl)⟩ (kI fun r_1064 σ_1064 q_1064 => ?_)
  have t40 : σ_1064 40 = σ 40 := k_who q_1064
  refine j_aload_n M dL_law_1067 rfl ?_
  refine j_aload_n M dL_law_1068 rfl ?_
  refine j_iload_n M dL_law_1069 rfl ?_
  refine j_iconst (v := 1) M dL_law_1070 rfl ?_
  refine j_iadd M dL_law_1071 ?_
  refine j_sld MX hL dL_law_1072 b1 d1 ?_
  refine j_aload_n M dL_law_1073 rfl ?_
  refine j_iload_n M dL_law_1074 rfl ?_
  refine j_iconst (v := 2) M dL_law_1075 rfl ?_
  refine j_iadd M dL_law_1076 ?_
  refine j_sld MX hL dL_law_1077 b2 d2 ?_
  refine j_aload_n M dL_law_1078 rfl ?_
  refine j_iload_n M dL_law_1079 rfl ?_
  refine j_iconst (v := 3) M dL_law_1080 rfl ?_
  refine j_iadd M dL_law_1081 ?_
  refine j_sld MX hL dL_law_1082 b3 d3 ?_
  refine j_aload_n M dL_law_1083 rfl ?_
  refine j_iload_n M dL_law_1084 rfl ?_
  refine j_iconst (v := 4) M dL_law_1085 rfl ?_
  refine j_iadd M dL_law_1086 ?_
  refine j_sld MX hL dL_law_1087 b4 d4 ?_
  refine j_aload_n M dL_law_1088 rfl ?_
  refine j_iload_n M dL_law_1089 rfl ?_
  refine j_iconst (v := 5) M dL_law_1090 rfl ?_
  refine j_iadd M dL_law_1091 ?_
  refine j_sld MX hL dL_law_1092 b5 d5 ?_
  refine j_aload_n M dL_law_1093 rfl ?_
  refine j_iload_n M dL_law_1094 rfl ?_
  refine j_bipush (v := 6) M dL_law_1095 rfl ?_
  refine j_iadd M dL_law_1097 ?_
  refine j_sld MX hL dL_law_1098 b6 d6 ?_
  refine j_inv6 M lk_L_126 (c_X7_who ((by rw [t40]; exact hR.S.w)) ((by rw [t40]; exact hR.W))) rv_X7 dL_law_1099 (Nat.le_of_ble_eq_true rfl) ⟨(Nat.le_of_ble_eq_true rfl), (Nat.le_of_ble_eq_true rfl)⟩ (kI fun r_1099 σ_1099 q_1099 => ?_)
  obtain ⟨er, hR2⟩ := st_who hR q_1064 q_1099
  refine j_icmp_eq (tgt := 1514) M dL_law_1102 (by decide) (fun h_1102 => ?_) (fun h_1102 => ?_)
  · exact ih _ hR2
  · exact absurd er h_1102
set_option maxRecDepth 100000 in
theorem lw_paste {l : Launch} {G : Gw} {post : Option Value → Sg → Prop} {Φ : Ph} {b L : Nat} {xs : Nat → Int32} {i : Int32} {σ : Sg} (MX : MachX l G 8 198 post Φ b L xs) (hL : L < 2147483648) (hR : Rel σ) (hb : ∀ j : Nat, j < 7 → 0 ≤ i + nI j ∧ i + nI j < nI L) (ih : ∀ τ : Sg, Rel τ → Φ 1514 [some (.ref b), some (.ref (ad G 0 0)), some (.ref (ad G 40 0)), some (.int i)] [] τ) : Φ 1107 [some (.ref b), some (.ref (ad G 0 0)), some (.ref (ad G 40 0)), some (.int i)] [] σ := by
  have M := MX.m
  have b1 : 0 ≤ i + 1 := (hb 1 (by omega)).1
  have d1 : i + 1 < nI L := (hb 1 (by omega)).2
  have b2 : 0 ≤ i + 2 := (hb 2 (by omega)).1
  have d2 : i + 2 < nI L := (hb 2 (by omega)).2
  have b3 : 0 ≤ i + 3 := (hb 3 (by omega)).1
  have d3 : i + 3 < nI L := (hb 3 (by omega)).2
  have b4 : 0 ≤ i + 4 := (hb 4 (by omega)).1
  have d4 : i + 4 < nI L := (hb 4 (by omega)).2
  have b5 : 0 ≤ i + 5 := (hb 5 (by omega)).1
  have d5 : i + 5 < nI L := (hb 5 (by omega)).2
  have b6 : 0 ≤ i + 6 := (hb 6 (by omega)).1
  have d6 : i + 6 < nI L := (hb 6 (by omega)).2
  refine j_aload_n M dL_law_1107 rfl ?_
  refine j_aload_n M dL_law_1108 rfl ?_
  refine j_iload_n M dL_law_1109 rfl ?_
  refine j_iconst (v := 1) M dL_law_1110 rfl ?_
  refine j_iadd M dL_law_1111 ?_
  refine j_sld MX hL dL_law_1112 b1 d1 ?_
  refine j_aload_n M dL_law_1113 rfl ?_
  refine j_iload_n M dL_law_1114 rfl ?_
  refine j_iconst (v := 2) M dL_law_1115 rfl ?_
  refine j_iadd M dL_law_1116 ?_
  refine j_sld MX hL dL_law_1117 b2 d2 ?_
  refine j_aload_n M dL_law_1118 rfl ?_
  refine j_iload_n M dL_law_1119 rfl ?_
  refine j_iconst (v := 3) M dL_law_1120 rfl ?_
  refine j_iadd M dL_law_1121 ?_
  refine j_sld MX hL dL_law_1122 b3 d3 ?_
  refine j_aload_n M dL_law_1123 rfl ?_
  refine j_iload_n M dL_law_1124 rfl ?_
  refine j_iconst (v := 4) M dL_law_1125 rfl ?_
  refine j_iadd M dL_law_1126 ?_
  refine j_sld MX hL dL_law_1127 b4 d4 ?_
  refine j_aload_n M dL_law_1128 rfl ?_
  refine j_iload_n M dL_law_1129 rfl ?_
  refine j_iconst (v := 5) M dL_law_1130 rfl ?_
  refine j_iadd M dL_law_1131 ?_
  refine j_sld MX hL dL_law_1132 b5 d5 ?_
  refine j_inv5 M lk_L_127 (c_X6_paste (hR.S) (hR.L) (hR.B)) rv_X6 dL_law_1133 (Nat.le_of_ble_eq_true rfl) ⟨(Nat.le_of_ble_eq_true rfl), (Nat.le_of_ble_eq_true rfl)⟩ (kI fun r_1133 σ_1133 q_1133 => ?_)
  have t40 : σ_1133 40 = σ 40 := k_paste q_1133
  refine j_aload_n M dL_law_1136 rfl ?_
  refine j_aload_n M dL_law_1137 rfl ?_
  refine j_iload_n M dL_law_1138 rfl ?_
  refine j_iconst (v := 1) M dL_law_1139 rfl ?_
  refine j_iadd M dL_law_1140 ?_
  refine j_sld MX hL dL_law_1141 b1 d1 ?_
  refine j_aload_n M dL_law_1142 rfl ?_
  refine j_iload_n M dL_law_1143 rfl ?_
  refine j_iconst (v := 2) M dL_law_1144 rfl ?_
  refine j_iadd M dL_law_1145 ?_
  refine j_sld MX hL dL_law_1146 b2 d2 ?_
  refine j_aload_n M dL_law_1147 rfl ?_
  refine j_iload_n M dL_law_1148 rfl ?_
  refine j_iconst (v := 3) M dL_law_1149 rfl ?_
  refine j_iadd M dL_law_1150 ?_
  refine j_sld MX hL dL_law_1151 b3 d3 ?_
  refine j_aload_n M dL_law_1152 rfl ?_
  refine j_iload_n M dL_law_1153 rfl ?_
  refine j_iconst (v := 4) M dL_law_1154 rfl ?_
  refine j_iadd M dL_law_1155 ?_
  refine j_sld MX hL dL_law_1156 b4 d4 ?_
  refine j_aload_n M dL_law_1157 rfl ?_
  refine j_iload_n M dL_law_1158 rfl ?_
  refine j_iconst (v := 5) M dL_law_1159 rfl ?_
  refine j_iadd M dL_law_1160 ?_
  refine j_sld MX hL dL_law_1161 b5 d5 ?_
  refine j_inv5 M lk_L_130 (c_X7_paste ((by rw [t40]; exact hR.S.w)) ((by rw [t40]; exact hR.W))) rv_X7 dL_law_1162 (Nat.le_of_ble_eq_true rfl) ⟨(Nat.le_of_ble_eq_true rfl), (Nat.le_of_ble_eq_true rfl)⟩ (kI fun r_1162 σ_1162 q_1162 => ?_)
  obtain ⟨er, hR2⟩ := st_paste hR q_1133 q_1162
  refine j_icmp_eq (tgt := 1514) M dL_law_1165 (by decide) (fun h_1165 => ?_) (fun h_1165 => ?_)
  · exact ih _ hR2
  · exact absurd er h_1165
set_option maxRecDepth 100000 in
theorem lw_hungers {l : Launch} {G : Gw} {post : Option Value → Sg → Prop} {Φ : Ph} {b L : Nat} {xs : Nat → Int32} {i : Int32} {σ : Sg} (MX : MachX l G 8 198 post Φ b L xs) (hL : L < 2147483648) (hR : Rel σ) (hb : ∀ j : Nat, j < 7 → 0 ≤ i + nI j ∧ i + nI j < nI L) (ih : ∀ τ : Sg, Rel τ → Φ 1514 [some (.ref b), some (.ref (ad G 0 0)), some (.ref (ad G 40 0)), some (.int i)] [] τ) : Φ 1170 [some (.ref b), some (.ref (ad G 0 0)), some (.ref (ad G 40 0)), some (.int i)] [] σ := by
  have M := MX.m
  have b1 : 0 ≤ i + 1 := (hb 1 (by omega)).1
  have d1 : i + 1 < nI L := (hb 1 (by omega)).2
  have b2 : 0 ≤ i + 2 := (hb 2 (by omega)).1
  have d2 : i + 2 < nI L := (hb 2 (by omega)).2
  have b3 : 0 ≤ i + 3 := (hb 3 (by omega)).1
  have d3 : i + 3 < nI L := (hb 3 (by omega)).2
  have b4 : 0 ≤ i + 4 := (hb 4 (by omega)).1
  have d4 : i + 4 < nI L := (hb 4 (by omega)).2
  have b5 : 0 ≤ i + 5 := (hb 5 (by omega)).1
  have d5 : i + 5 < nI L := (hb 5 (by omega)).2
  have b6 : 0 ≤ i + 6 := (hb 6 (by omega)).1
  have d6 : i + 6 < nI L := (hb 6 (by omega)).2
  refine j_aload_n M dL_law_1170 rfl ?_
  refine j_aload_n M dL_law_1171 rfl ?_
  refine j_iload_n M dL_law_1172 rfl ?_
  refine j_iconst (v := 1) M dL_law_1173 rfl ?_
  refine j_iadd M dL_law_1174 ?_
  refine j_sld MX hL dL_law_1175 b1 d1 ?_
  refine j_aload_n M dL_law_1176 rfl ?_
  refine j_iload_n M dL_law_1177 rfl ?_
  refine j_iconst (v := 2) M dL_law_1178 rfl ?_
  refine j_iadd M dL_law_1179 ?_
  refine j_sld MX hL dL_law_1180 b2 d2 ?_
  refine j_aload_n M dL_law_1181 rfl ?_
  refine j_iload_n M dL_law_1182 rfl ?_
  refine j_iconst (v := 3) M dL_law_1183 rfl ?_
  refine j_iadd M dL_law_1184 ?_
  refine j_sld MX hL dL_law_1185 b3 d3 ?_
  refine j_aload_n M dL_law_1186 rfl ?_
  refine j_iload_n M dL_law_1187 rfl ?_
  refine j_iconst (v := 4) M dL_law_1188 rfl ?_
  refine j_iadd M dL_law_1189 ?_
  refine j_sld MX hL dL_law_1190 b4 d4 ?_
  refine j_inv4 M lk_L_131 (c_X6_hungers (hR.S) (hR.L) (hR.B)) rv_X6 dL_law_1191 (Nat.le_of_ble_eq_true rfl) ⟨(Nat.le_of_ble_eq_true rfl), (Nat.le_of_ble_eq_true rfl)⟩ (kI fun r_1191 σ_1191 q_1191 => ?_)
  have t40 : σ_1191 40 = σ 40 := k_hungers q_1191
  refine j_aload_n M dL_law_1194 rfl ?_
  refine j_aload_n M dL_law_1195 rfl ?_
  refine j_iload_n M dL_law_1196 rfl ?_
  refine j_iconst (v := 1) M dL_law_1197 rfl ?_
  refine j_iadd M dL_law_1198 ?_
  refine j_sld MX hL dL_law_1199 b1 d1 ?_
  refine j_aload_n M dL_law_1200 rfl ?_
  refine j_iload_n M dL_law_1201 rfl ?_
  refine j_iconst (v := 2) M dL_law_1202 rfl ?_
  refine j_iadd M dL_law_1203 ?_
  refine j_sld MX hL dL_law_1204 b2 d2 ?_
  refine j_aload_n M dL_law_1205 rfl ?_
  refine j_iload_n M dL_law_1206 rfl ?_
  refine j_iconst (v := 3) M dL_law_1207 rfl ?_
  refine j_iadd M dL_law_1208 ?_
  refine j_sld MX hL dL_law_1209 b3 d3 ?_
  refine j_aload_n M dL_law_1210 rfl ?_
  refine j_iload_n M dL_law_1211 rfl ?_
  refine j_iconst (v := 4) M dL_law_1212 rfl ?_
  refine j_iadd M dL_law_1213 ?_
  refine j_sld MX hL dL_law_1214 b4 d4 ?_
  refine j_inv4 M lk_L_135 (c_X7_hungers ((by rw [t40]; exact hR.S.w)) ((by rw [t40]; exact hR.W))) rv_X7 dL_law_1215 (Nat.le_of_ble_eq_true rfl) ⟨(Nat.le_of_ble_eq_true rfl), (Nat.le_of_ble_eq_true rfl)⟩ (kI fun r_1215 σ_1215 q_1215 => ?_)
  obtain ⟨er, hR2⟩ := st_hungers hR q_1191 q_1215
  refine j_icmp_eq (tgt := 1514) M dL_law_1218 (by decide) (fun h_1218 => ?_) (fun h_1218 => ?_)
  · exact ih _ hR2
  · exact absurd er h_1218
set_option maxRecDepth 100000 in
theorem lw_dark {l : Launch} {G : Gw} {post : Option Value → Sg → Prop} {Φ : Ph} {b L : Nat} {xs : Nat → Int32} {i : Int32} {σ : Sg} (MX : MachX l G 8 198 post Φ b L xs) (hL : L < 2147483648) (hR : Rel σ) (hb : ∀ j : Nat, j < 7 → 0 ≤ i + nI j ∧ i + nI j < nI L) (ih : ∀ τ : Sg, Rel τ → Φ 1514 [some (.ref b), some (.ref (ad G 0 0)), some (.ref (ad G 40 0)), some (.int i)] [] τ) : Φ 1223 [some (.ref b), some (.ref (ad G 0 0)), some (.ref (ad G 40 0)), some (.int i)] [] σ := by
  have M := MX.m
  have b1 : 0 ≤ i + 1 := (hb 1 (by omega)).1
  have d1 : i + 1 < nI L := (hb 1 (by omega)).2
  have b2 : 0 ≤ i + 2 := (hb 2 (by omega)).1
  have d2 : i + 2 < nI L := (hb 2 (by omega)).2
  have b3 : 0 ≤ i + 3 := (hb 3 (by omega)).1
  have d3 : i + 3 < nI L := (hb 3 (by omega)).2
  have b4 : 0 ≤ i + 4 := (hb 4 (by omega)).1
  have d4 : i + 4 < nI L := (hb 4 (by omega)).2
  have b5 : 0 ≤ i + 5 := (hb 5 (by omega)).1
  have d5 : i + 5 < nI L := (hb 5 (by omega)).2
  have b6 : 0 ≤ i + 6 := (hb 6 (by omega)).1
  have d6 : i + 6 < nI L := (hb 6 (by omega)).2
  refine j_aload_n M dL_law_1223 rfl ?_
  refine j_aload_n M dL_law_1224 rfl ?_
  refine j_iload_n M dL_law_1225 rfl ?_
  refine j_iconst (v := 1) M dL_law_1226 rfl ?_
  refine j_iadd M dL_law_1227 ?_
  refine j_sld MX hL dL_law_1228 b1 d1 ?_
  refine j_aload_n M dL_law_1229 rfl ?_
  refine j_iload_n M dL_law_1230 rfl ?_
  refine j_iconst (v := 2) M dL_law_1231 rfl ?_
  refine j_iadd M dL_law_1232 ?_
  refine j_sld MX hL dL_law_1233 b2 d2 ?_
  refine j_aload_n M dL_law_1234 rfl ?_
  refine j_iload_n M dL_law_1235 rfl ?_
  refine j_iconst (v := 3) M dL_law_1236 rfl ?_
  refine j_iadd M dL_law_1237 ?_
  refine j_sld MX hL dL_law_1238 b3 d3 ?_
  refine j_aload_n M dL_law_1239 rfl ?_
  refine j_iload_n M dL_law_1240 rfl ?_
  refine j_iconst (v := 4) M dL_law_1241 rfl ?_
  refine j_iadd M dL_law_1242 ?_
  refine j_sld MX hL dL_law_1243 b4 d4 ?_
  refine j_inv4 M lk_L_136 (c_X6_dark (hR.S) (hR.L)) rv_X6 dL_law_1244 (Nat.le_of_ble_eq_true rfl) ⟨(Nat.le_of_ble_eq_true rfl), (Nat.le_of_ble_eq_true rfl)⟩ (kL fun r_1244 σ_1244 q_1244 => ?_)
  have t40 : σ_1244 40 = σ 40 := k_dark q_1244
  refine j_aload_n M dL_law_1247 rfl ?_
  refine j_aload_n M dL_law_1248 rfl ?_
  refine j_iload_n M dL_law_1249 rfl ?_
  refine j_iconst (v := 1) M dL_law_1250 rfl ?_
  refine j_iadd M dL_law_1251 ?_
  refine j_sld MX hL dL_law_1252 b1 d1 ?_
  refine j_aload_n M dL_law_1253 rfl ?_
  refine j_iload_n M dL_law_1254 rfl ?_
  refine j_iconst (v := 2) M dL_law_1255 rfl ?_
  refine j_iadd M dL_law_1256 ?_
  refine j_sld MX hL dL_law_1257 b2 d2 ?_
  refine j_aload_n M dL_law_1258 rfl ?_
  refine j_iload_n M dL_law_1259 rfl ?_
  refine j_iconst (v := 3) M dL_law_1260 rfl ?_
  refine j_iadd M dL_law_1261 ?_
  refine j_sld MX hL dL_law_1262 b3 d3 ?_
  refine j_aload_n M dL_law_1263 rfl ?_
  refine j_iload_n M dL_law_1264 rfl ?_
  refine j_iconst (v := 4) M dL_law_1265 rfl ?_
  refine j_iadd M dL_law_1266 ?_
  refine j_sld MX hL dL_law_1267 b4 d4 ?_
  refine j_inv4 M lk_L_140 (c_X7_dark ((by rw [t40]; exact hR.S.w))) rv_X7 dL_law_1268 (Nat.le_of_ble_eq_true rfl) ⟨(Nat.le_of_ble_eq_true rfl), (Nat.le_of_ble_eq_true rfl)⟩ (kL fun r_1268 σ_1268 q_1268 => ?_)
  obtain ⟨er, hR2⟩ := st_dark hR q_1244 q_1268
  refine j_lcmp M dL_law_1271 ?_
  refine j_if_eq (tgt := 1514) M dL_law_1272 (by decide) (fun h_1272 => ?_) (fun h_1272 => ?_)
  · exact ih _ hR2
  · exact absurd ((lg_eq _ _).mpr er) h_1272
