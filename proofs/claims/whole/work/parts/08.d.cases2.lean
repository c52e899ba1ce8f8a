section LAWC2
variable {p : Program} {l : Launch} {e : Env} {s : State} {m : MethodId} {below : List Frame} {meth : Method} {c : Code} {H : Heap} {locs : List Loc} {Q : State → Prop} {D : va_G} {ad sx : Nat → Nat} {ca : Nat → ClassId} {w : Wd} {ls : Array Slot} {b L : Nat} {xs : Nat → Int32}
set_option maxHeartbeats 1000000 in
theorem lc_even (X : Lw D ad sx ca p s m c b L xs) (S : St D ad ca s w H locs) (hI : Inv w) {i : Nat} (hl : lv_has ls 4 (lvL ad b i)) (hi6 : i + 6 ≤ L) (kk : ∀ (w2 : Wd) (H1 : Heap) (locs1 : List Loc), Inv w2 → St D ad ca s w2 H1 locs1 → WL p l e s m b below meth c H1 locs1 Q (F0 m 1387 ls [])) : WL p l e s m b below meth c H locs Q (F0 m 769 ls []) := by
  obtain ⟨r, w1, w2, e1, e2, hI2⟩ := op_even hI ((xs (i + 1))) ((xs (i + 2)))
  refine lv_aload_n X.1.1 X.1.2.1 dL_769 rfl (lv_at hl 2 rfl) ?_
  refine q_arg X S hl 1 (by omega) (by decide) dL_770 dL_771 dL_772 dL_773 dL_774 ?_
  refine q_arg X S hl 2 (by omega) (by decide) dL_775 dL_776 dL_777 dL_778 dL_779 ?_
  refine q_vi X.1 S hl o_0 cf_10 (k_X10_even e1) vb_X10_even [.int (xs (i + 1)), .int (xs (i + 2))] rfl [] rfl rfl (Nat.le_of_ble_eq_true rfl) ⟨(Nat.le_of_ble_eq_true rfl), (Nat.le_of_ble_eq_true rfl)⟩ ⟨(Nat.le_of_ble_eq_true rfl), (Nat.le_of_ble_eq_true rfl)⟩ dL_780 (fun H locs S => ?_)
  refine lv_aload_n X.1.1 X.1.2.1 dL_783 rfl (lv_at hl 1 rfl) ?_
  refine q_arg X S hl 1 (by omega) (by decide) dL_784 dL_785 dL_786 dL_787 dL_788 ?_
  refine q_arg X S hl 2 (by omega) (by decide) dL_789 dL_790 dL_791 dL_792 dL_793 ?_
  refine q_vi X.1 S hl o_76 cf_11 (k_X11_even e2) vb_X11_even [.int (xs (i + 1)), .int (xs (i + 2))] rfl [.int r] rfl rfl (Nat.le_of_ble_eq_true rfl) ⟨(Nat.le_of_ble_eq_true rfl), (Nat.le_of_ble_eq_true rfl)⟩ ⟨(Nat.le_of_ble_eq_true rfl), (Nat.le_of_ble_eq_true rfl)⟩ dL_794 (fun H locs S => ?_)
  refine lv_icmp_eq (tgt := 1387) X.1.1 X.1.2.1 dL_797 (by decide) (fun _ => kk w2 H locs hI2 S) (fun z => absurd rfl z)
set_option maxHeartbeats 1000000 in
theorem lc_foretold (X : Lw D ad sx ca p s m c b L xs) (S : St D ad ca s w H locs) (hI : Inv w) {i : Nat} (hl : lv_has ls 4 (lvL ad b i)) (hi6 : i + 6 ≤ L) (kk : ∀ (w2 : Wd) (H1 : Heap) (locs1 : List Loc), Inv w2 → St D ad ca s w2 H1 locs1 → WL p l e s m b below meth c H1 locs1 Q (F0 m 1387 ls [])) : WL p l e s m b below meth c H locs Q (F0 m 802 ls []) := by
  obtain ⟨r, w1, w2, e1, e2, hI2⟩ := op_foretold hI ((xs (i + 1))) ((xs (i + 2)))
  refine lv_aload_n X.1.1 X.1.2.1 dL_802 rfl (lv_at hl 2 rfl) ?_
  refine q_arg X S hl 1 (by omega) (by decide) dL_803 dL_804 dL_805 dL_806 dL_807 ?_
  refine q_arg X S hl 2 (by omega) (by decide) dL_808 dL_809 dL_810 dL_811 dL_812 ?_
  refine q_vi X.1 S hl o_0 cf_10 (k_X10_foretold e1) vb_X10_foretold [.int (xs (i + 1)), .int (xs (i + 2))] rfl [] rfl rfl (Nat.le_of_ble_eq_true rfl) ⟨(Nat.le_of_ble_eq_true rfl), (Nat.le_of_ble_eq_true rfl)⟩ ⟨(Nat.le_of_ble_eq_true rfl), (Nat.le_of_ble_eq_true rfl)⟩ dL_813 (fun H locs S => ?_)
  refine lv_aload_n X.1.1 X.1.2.1 dL_816 rfl (lv_at hl 1 rfl) ?_
  refine q_arg X S hl 1 (by omega) (by decide) dL_817 dL_818 dL_819 dL_820 dL_821 ?_
  refine q_arg X S hl 2 (by omega) (by decide) dL_822 dL_823 dL_824 dL_825 dL_826 ?_
  refine q_vi X.1 S hl o_76 cf_11 (k_X11_foretold e2) vb_X11_foretold [.int (xs (i + 1)), .int (xs (i + 2))] rfl [.int r] rfl rfl (Nat.le_of_ble_eq_true rfl) ⟨(Nat.le_of_ble_eq_true rfl), (Nat.le_of_ble_eq_true rfl)⟩ ⟨(Nat.le_of_ble_eq_true rfl), (Nat.le_of_ble_eq_true rfl)⟩ dL_827 (fun H locs S => ?_)
  refine lv_icmp_eq (tgt := 1387) X.1.1 X.1.2.1 dL_830 (by decide) (fun _ => kk w2 H locs hI2 S) (fun z => absurd rfl z)
set_option maxHeartbeats 1000000 in
theorem lc_few (X : Lw D ad sx ca p s m c b L xs) (S : St D ad ca s w H locs) (hI : Inv w) {i : Nat} (hl : lv_has ls 4 (lvL ad b i)) (hi6 : i + 6 ≤ L) (kk : ∀ (w2 : Wd) (H1 : Heap) (locs1 : List Loc), Inv w2 → St D ad ca s w2 H1 locs1 → WL p l e s m b below meth c H1 locs1 Q (F0 m 1387 ls [])) : WL p l e s m b below meth c H locs Q (F0 m 835 ls []) := by
  obtain ⟨r, w1, w2, e1, e2, hI2⟩ := op_few hI ((xs (i + 1))) ((xs (i + 2))) ((xs (i + 3)))
  refine lv_aload_n X.1.1 X.1.2.1 dL_835 rfl (lv_at hl 2 rfl) ?_
  refine q_arg X S hl 1 (by omega) (by decide) dL_836 dL_837 dL_838 dL_839 dL_840 ?_
  refine q_arg X S hl 2 (by omega) (by decide) dL_841 dL_842 dL_843 dL_844 dL_845 ?_
  refine q_arg X S hl 3 (by omega) (by decide) dL_846 dL_847 dL_848 dL_849 dL_850 ?_
  refine q_vi X.1 S hl o_0 cf_10 (k_X10_few e1) vb_X10_few [.int (xs (i + 1)), .int (xs (i + 2)), .int (xs (i + 3))] rfl [] rfl rfl (Nat.le_of_ble_eq_true rfl) ⟨(Nat.le_of_ble_eq_true rfl), (Nat.le_of_ble_eq_true rfl)⟩ ⟨(Nat.le_of_ble_eq_true rfl), (Nat.le_of_ble_eq_true rfl)⟩ dL_851 (fun H locs S => ?_)
  refine lv_aload_n X.1.1 X.1.2.1 dL_854 rfl (lv_at hl 1 rfl) ?_
  refine q_arg X S hl 1 (by omega) (by decide) dL_855 dL_856 dL_857 dL_858 dL_859 ?_
  refine q_arg X S hl 2 (by omega) (by decide) dL_860 dL_861 dL_862 dL_863 dL_864 ?_
  refine q_arg X S hl 3 (by omega) (by decide) dL_865 dL_866 dL_867 dL_868 dL_869 ?_
  refine q_vi X.1 S hl o_76 cf_11 (k_X11_few e2) vb_X11_few [.int (xs (i + 1)), .int (xs (i + 2)), .int (xs (i + 3))] rfl [.int r] rfl rfl (Nat.le_of_ble_eq_true rfl) ⟨(Nat.le_of_ble_eq_true rfl), (Nat.le_of_ble_eq_true rfl)⟩ ⟨(Nat.le_of_ble_eq_true rfl), (Nat.le_of_ble_eq_true rfl)⟩ dL_870 (fun H locs S => ?_)
  refine lv_icmp_eq (tgt := 1387) X.1.1 X.1.2.1 dL_873 (by decide) (fun _ => kk w2 H locs hI2 S) (fun z => absurd rfl z)
set_option maxHeartbeats 1000000 in
theorem lc_setback (X : Lw D ad sx ca p s m c b L xs) (S : St D ad ca s w H locs) (hI : Inv w) {i : Nat} (hl : lv_has ls 4 (lvL ad b i)) (hi6 : i + 6 ≤ L) (kk : ∀ (w2 : Wd) (H1 : Heap) (locs1 : List Loc), Inv w2 → St D ad ca s w2 H1 locs1 → WL p l e s m b below meth c H1 locs1 Q (F0 m 1387 ls [])) : WL p l e s m b below meth c H locs Q (F0 m 878 ls []) := by
  obtain ⟨r, w1, w2, e1, e2, hI2⟩ := op_setback hI ((xs (i + 1))) ((xs (i + 2)))
  refine lv_aload_n X.1.1 X.1.2.1 dL_878 rfl (lv_at hl 2 rfl) ?_
  refine q_arg X S hl 1 (by omega) (by decide) dL_879 dL_880 dL_881 dL_882 dL_883 ?_
  refine q_arg X S hl 2 (by omega) (by decide) dL_884 dL_885 dL_886 dL_887 dL_888 ?_
  refine q_vi X.1 S hl o_0 cf_10 (k_X10_setback e1) vb_X10_setback [.int (xs (i + 1)), .int (xs (i + 2))] rfl [] rfl rfl (Nat.le_of_ble_eq_true rfl) ⟨(Nat.le_of_ble_eq_true rfl), (Nat.le_of_ble_eq_true rfl)⟩ ⟨(Nat.le_of_ble_eq_true rfl), (Nat.le_of_ble_eq_true rfl)⟩ dL_889 (fun H locs S => ?_)
  refine lv_aload_n X.1.1 X.1.2.1 dL_892 rfl (lv_at hl 1 rfl) ?_
  refine q_arg X S hl 1 (by omega) (by decide) dL_893 dL_894 dL_895 dL_896 dL_897 ?_
  refine q_arg X S hl 2 (by omega) (by decide) dL_898 dL_899 dL_900 dL_901 dL_902 ?_
  refine q_vi X.1 S hl o_76 cf_11 (k_X11_setback e2) vb_X11_setback [.int (xs (i + 1)), .int (xs (i + 2))] rfl [.int r] rfl rfl (Nat.le_of_ble_eq_true rfl) ⟨(Nat.le_of_ble_eq_true rfl), (Nat.le_of_ble_eq_true rfl)⟩ ⟨(Nat.le_of_ble_eq_true rfl), (Nat.le_of_ble_eq_true rfl)⟩ dL_903 (fun H locs S => ?_)
  refine lv_icmp_eq (tgt := 1387) X.1.1 X.1.2.1 dL_906 (by decide) (fun _ => kk w2 H locs hI2 S) (fun z => absurd rfl z)
set_option maxHeartbeats 1000000 in
theorem lc_works (X : Lw D ad sx ca p s m c b L xs) (S : St D ad ca s w H locs) (hI : Inv w) {i : Nat} (hl : lv_has ls 4 (lvL ad b i)) (hi6 : i + 6 ≤ L) (kk : ∀ (w2 : Wd) (H1 : Heap) (locs1 : List Loc), Inv w2 → St D ad ca s w2 H1 locs1 → WL p l e s m b below meth c H1 locs1 Q (F0 m 1387 ls [])) : WL p l e s m b below meth c H locs Q (F0 m 911 ls []) := by
  obtain ⟨r, w1, w2, e1, e2, hI2⟩ := op_works hI ((xs (i + 1))) ((xs (i + 2))) ((xs (i + 3)))
  refine lv_aload_n X.1.1 X.1.2.1 dL_911 rfl (lv_at hl 2 rfl) ?_
  refine q_arg X S hl 1 (by omega) (by decide) dL_912 dL_913 dL_914 dL_915 dL_916 ?_
  refine q_arg X S hl 2 (by omega) (by decide) dL_917 dL_918 dL_919 dL_920 dL_921 ?_
  refine q_arg X S hl 3 (by omega) (by decide) dL_922 dL_923 dL_924 dL_925 dL_926 ?_
  refine q_vi X.1 S hl o_0 cf_10 (k_X10_works e1) vb_X10_works [.int (xs (i + 1)), .int (xs (i + 2)), .int (xs (i + 3))] rfl [] rfl rfl (Nat.le_of_ble_eq_true rfl) ⟨(Nat.le_of_ble_eq_true rfl), (Nat.le_of_ble_eq_true rfl)⟩ ⟨(Nat.le_of_ble_eq_true rfl), (Nat.le_of_ble_eq_true rfl)⟩ dL_927 (fun H locs S => ?_)
  refine lv_aload_n X.1.1 X.1.2.1 dL_930 rfl (lv_at hl 1 rfl) ?_
  refine q_arg X S hl 1 (by omega) (by decide) dL_931 dL_932 dL_933 dL_934 dL_935 ?_
  refine q_arg X S hl 2 (by omega) (by decide) dL_936 dL_937 dL_938 dL_939 dL_940 ?_
  refine q_arg X S hl 3 (by omega) (by decide) dL_941 dL_942 dL_943 dL_944 dL_945 ?_
  refine q_vi X.1 S hl o_76 cf_11 (k_X11_works e2) vb_X11_works [.int (xs (i + 1)), .int (xs (i + 2)), .int (xs (i + 3))] rfl [.int r] rfl rfl (Nat.le_of_ble_eq_true rfl) ⟨(Nat.le_of_ble_eq_true rfl), (Nat.le_of_ble_eq_true rfl)⟩ ⟨(Nat.le_of_ble_eq_true rfl), (Nat.le_of_ble_eq_true rfl)⟩ dL_946 (fun H locs S => ?_)
  refine lv_icmp_eq (tgt := 1387) X.1.1 X.1.2.1 dL_949 (by decide) (fun _ => kk w2 H locs hI2 S) (fun z => absurd rfl z)
set_option maxHeartbeats 1000000 in
theorem lc_complain (X : Lw D ad sx ca p s m c b L xs) (S : St D ad ca s w H locs) (hI : Inv w) {i : Nat} (hl : lv_has ls 4 (lvL ad b i)) (hi6 : i + 6 ≤ L) (kk : ∀ (w2 : Wd) (H1 : Heap) (locs1 : List Loc), Inv w2 → St D ad ca s w2 H1 locs1 → WL p l e s m b below meth c H1 locs1 Q (F0 m 1387 ls [])) : WL p l e s m b below meth c H locs Q (F0 m 954 ls []) := by
  obtain ⟨r, w1, w2, e1, e2, hI2⟩ := op_complain hI ((xs (i + 1))) ((xs (i + 2)))
  refine lv_aload_n X.1.1 X.1.2.1 dL_954 rfl (lv_at hl 2 rfl) ?_
  refine q_arg X S hl 1 (by omega) (by decide) dL_955 dL_956 dL_957 dL_958 dL_959 ?_
  refine q_arg X S hl 2 (by omega) (by decide) dL_960 dL_961 dL_962 dL_963 dL_964 ?_
  refine q_vi X.1 S hl o_0 cf_10 (k_X10_complain e1) vb_X10_complain [.int (xs (i + 1)), .int (xs (i + 2))] rfl [] rfl rfl (Nat.le_of_ble_eq_true rfl) ⟨(Nat.le_of_ble_eq_true rfl), (Nat.le_of_ble_eq_true rfl)⟩ ⟨(Nat.le_of_ble_eq_true rfl), (Nat.le_of_ble_eq_true rfl)⟩ dL_965 (fun H locs S => ?_)
  refine lv_aload_n X.1.1 X.1.2.1 dL_968 rfl (lv_at hl 1 rfl) ?_
  refine q_arg X S hl 1 (by omega) (by decide) dL_969 dL_970 dL_971 dL_972 dL_973 ?_
  refine q_arg X S hl 2 (by omega) (by decide) dL_974 dL_975 dL_976 dL_977 dL_978 ?_
  refine q_vi X.1 S hl o_76 cf_11 (k_X11_complain e2) vb_X11_complain [.int (xs (i + 1)), .int (xs (i + 2))] rfl [.int r] rfl rfl (Nat.le_of_ble_eq_true rfl) ⟨(Nat.le_of_ble_eq_true rfl), (Nat.le_of_ble_eq_true rfl)⟩ ⟨(Nat.le_of_ble_eq_true rfl), (Nat.le_of_ble_eq_true rfl)⟩ dL_979 (fun H locs S => ?_)
  refine lv_icmp_eq (tgt := 1387) X.1.1 X.1.2.1 dL_982 (by decide) (fun _ => kk w2 H locs hI2 S) (fun z => absurd rfl z)
set_option maxHeartbeats 1000000 in
theorem lc_complaint (X : Lw D ad sx ca p s m c b L xs) (S : St D ad ca s w H locs) (hI : Inv w) {i : Nat} (hl : lv_has ls 4 (lvL ad b i)) (hi6 : i + 6 ≤ L) (kk : ∀ (w2 : Wd) (H1 : Heap) (locs1 : List Loc), Inv w2 → St D ad ca s w2 H1 locs1 → WL p l e s m b below meth c H1 locs1 Q (F0 m 1387 ls [])) : WL p l e s m b below meth c H locs Q (F0 m 987 ls []) := by
  obtain ⟨r, w1, w2, e1, e2, hI2⟩ := op_complaint hI ((xs (i + 1))) ((xs (i + 2)))
  refine lv_aload_n X.1.1 X.1.2.1 dL_987 rfl (lv_at hl 2 rfl) ?_
  refine q_arg X S hl 1 (by omega) (by decide) dL_988 dL_989 dL_990 dL_991 dL_992 ?_
  refine q_arg X S hl 2 (by omega) (by decide) dL_993 dL_994 dL_995 dL_996 dL_997 ?_
  refine q_vi X.1 S hl o_0 cf_10 (k_X10_complaint e1) vb_X10_complaint [.int (xs (i + 1)), .int (xs (i + 2))] rfl [] rfl rfl (Nat.le_of_ble_eq_true rfl) ⟨(Nat.le_of_ble_eq_true rfl), (Nat.le_of_ble_eq_true rfl)⟩ ⟨(Nat.le_of_ble_eq_true rfl), (Nat.le_of_ble_eq_true rfl)⟩ dL_998 (fun H locs S => ?_)
  refine lv_aload_n X.1.1 X.1.2.1 dL_1001 rfl (lv_at hl 1 rfl) ?_
  refine q_arg X S hl 1 (by omega) (by decide) dL_1002 dL_1003 dL_1004 dL_1005 dL_1006 ?_
  refine q_arg X S hl 2 (by omega) (by decide) dL_1007 dL_1008 dL_1009 dL_1010 dL_1011 ?_
  refine q_vi X.1 S hl o_76 cf_11 (k_X11_complaint e2) vb_X11_complaint [.int (xs (i + 1)), .int (xs (i + 2))] rfl [.int r] rfl rfl (Nat.le_of_ble_eq_true rfl) ⟨(Nat.le_of_ble_eq_true rfl), (Nat.le_of_ble_eq_true rfl)⟩ ⟨(Nat.le_of_ble_eq_true rfl), (Nat.le_of_ble_eq_true rfl)⟩ dL_1012 (fun H locs S => ?_)
  refine lv_icmp_eq (tgt := 1387) X.1.1 X.1.2.1 dL_1015 (by decide) (fun _ => kk w2 H locs hI2 S) (fun z => absurd rfl z)
set_option maxHeartbeats 1000000 in
theorem lc_joined (X : Lw D ad sx ca p s m c b L xs) (S : St D ad ca s w H locs) (hI : Inv w) {i : Nat} (hl : lv_has ls 4 (lvL ad b i)) (hi6 : i + 6 ≤ L) (kk : ∀ (w2 : Wd) (H1 : Heap) (locs1 : List Loc), Inv w2 → St D ad ca s w2 H1 locs1 → WL p l e s m b below meth c H1 locs1 Q (F0 m 1387 ls [])) : WL p l e s m b below meth c H locs Q (F0 m 1020 ls []) := by
  obtain ⟨r, w1, w2, e1, e2, hI2⟩ := op_joined hI ((xs (i + 1))) ((xs (i + 2)))
  refine lv_aload_n X.1.1 X.1.2.1 dL_1020 rfl (lv_at hl 2 rfl) ?_
  refine q_arg X S hl 1 (by omega) (by decide) dL_1021 dL_1022 dL_1023 dL_1024 dL_1025 ?_
  refine q_arg X S hl 2 (by omega) (by decide) dL_1026 dL_1027 dL_1028 dL_1029 dL_1030 ?_
  refine q_vi X.1 S hl o_0 cf_10 (k_X10_joined e1) vb_X10_joined [.int (xs (i + 1)), .int (xs (i + 2))] rfl [] rfl rfl (Nat.le_of_ble_eq_true rfl) ⟨(Nat.le_of_ble_eq_true rfl), (Nat.le_of_ble_eq_true rfl)⟩ ⟨(Nat.le_of_ble_eq_true rfl), (Nat.le_of_ble_eq_true rfl)⟩ dL_1031 (fun H locs S => ?_)
  refine lv_aload_n X.1.1 X.1.2.1 dL_1034 rfl (lv_at hl 1 rfl) ?_
  refine q_arg X S hl 1 (by omega) (by decide) dL_1035 dL_1036 dL_1037 dL_1038 dL_1039 ?_
  refine q_arg X S hl 2 (by omega) (by decide) dL_1040 dL_1041 dL_1042 dL_1043 dL_1044 ?_
  refine q_vi X.1 S hl o_76 cf_11 (k_X11_joined e2) vb_X11_joined [.int (xs (i + 1)), .int (xs (i + 2))] rfl [.int r] rfl rfl (Nat.le_of_ble_eq_true rfl) ⟨(Nat.le_of_ble_eq_true rfl), (Nat.le_of_ble_eq_true rfl)⟩ ⟨(Nat.le_of_ble_eq_true rfl), (Nat.le_of_ble_eq_true rfl)⟩ dL_1045 (fun H locs S => ?_)
  refine lv_icmp_eq (tgt := 1387) X.1.1 X.1.2.1 dL_1048 (by decide) (fun _ => kk w2 H locs hI2 S) (fun z => absurd rfl z)
set_option maxHeartbeats 1000000 in
theorem lc_groups (X : Lw D ad sx ca p s m c b L xs) (S : St D ad ca s w H locs) (hI : Inv w) {i : Nat} (hl : lv_has ls 4 (lvL ad b i)) (hi6 : i + 6 ≤ L) (kk : ∀ (w2 : Wd) (H1 : Heap) (locs1 : List Loc), Inv w2 → St D ad ca s w2 H1 locs1 → WL p l e s m b below meth c H1 locs1 Q (F0 m 1387 ls [])) : WL p l e s m b below meth c H locs Q (F0 m 1053 ls []) := by
  obtain ⟨r, w1, w2, e1, e2, hI2⟩ := op_groups hI ((xs (i + 1)))
  refine lv_aload_n X.1.1 X.1.2.1 dL_1053 rfl (lv_at hl 2 rfl) ?_
  refine q_arg X S hl 1 (by omega) (by decide) dL_1054 dL_1055 dL_1056 dL_1057 dL_1058 ?_
  refine q_vi X.1 S hl o_0 cf_10 (k_X10_groups e1) vb_X10_groups [.int (xs (i + 1))] rfl [] rfl rfl (Nat.le_of_ble_eq_true rfl) ⟨(Nat.le_of_ble_eq_true rfl), (Nat.le_of_ble_eq_true rfl)⟩ ⟨(Nat.le_of_ble_eq_true rfl), (Nat.le_of_ble_eq_true rfl)⟩ dL_1059 (fun H locs S => ?_)
  refine lv_aload_n X.1.1 X.1.2.1 dL_1062 rfl (lv_at hl 1 rfl) ?_
  refine q_arg X S hl 1 (by omega) (by decide) dL_1063 dL_1064 dL_1065 dL_1066 dL_1067 ?_
  refine q_vi X.1 S hl o_76 cf_11 (k_X11_groups e2) vb_X11_groups [.int (xs (i + 1))] rfl [.int r] rfl rfl (Nat.le_of_ble_eq_true rfl) ⟨(Nat.le_of_ble_eq_true rfl), (Nat.le_of_ble_eq_true rfl)⟩ ⟨(Nat.le_of_ble_eq_true rfl), (Nat.le_of_ble_eq_true rfl)⟩ dL_1068 (fun H locs S => ?_)
  refine lv_icmp_eq (tgt := 1387) X.1.1 X.1.2.1 dL_1071 (by decide) (fun _ => kk w2 H locs hI2 S) (fun z => absurd rfl z)
set_option maxHeartbeats 1000000 in
theorem lc_sheet (X : Lw D ad sx ca p s m c b L xs) (S : St D ad ca s w H locs) (hI : Inv w) {i : Nat} (hl : lv_has ls 4 (lvL ad b i)) (hi6 : i + 6 ≤ L) (kk : ∀ (w2 : Wd) (H1 : Heap) (locs1 : List Loc), Inv w2 → St D ad ca s w2 H1 locs1 → WL p l e s m b below meth c H1 locs1 Q (F0 m 1387 ls [])) : WL p l e s m b below meth c H locs Q (F0 m 1076 ls []) := by
  obtain ⟨r, w1, w2, e1, e2, hI2⟩ := op_sheet hI ((xs (i + 1))) ((xs (i + 2))) ((xs (i + 3)))
  refine lv_aload_n X.1.1 X.1.2.1 dL_1076 rfl (lv_at hl 2 rfl) ?_
  refine q_arg X S hl 1 (by omega) (by decide) dL_1077 dL_1078 dL_1079 dL_1080 dL_1081 ?_
  refine q_arg X S hl 2 (by omega) (by decide) dL_1082 dL_1083 dL_1084 dL_1085 dL_1086 ?_
  refine q_arg X S hl 3 (by omega) (by decide) dL_1087 dL_1088 dL_1089 dL_1090 dL_1091 ?_
  refine q_vi X.1 S hl o_0 cf_10 (k_X10_sheet e1) vb_X10_sheet [.int (xs (i + 1)), .int (xs (i + 2)), .int (xs (i + 3))] rfl [] rfl rfl (Nat.le_of_ble_eq_true rfl) ⟨(Nat.le_of_ble_eq_true rfl), (Nat.le_of_ble_eq_true rfl)⟩ ⟨(Nat.le_of_ble_eq_true rfl), (Nat.le_of_ble_eq_true rfl)⟩ dL_1092 (fun H locs S => ?_)
  refine lv_aload_n X.1.1 X.1.2.1 dL_1095 rfl (lv_at hl 1 rfl) ?_
  refine q_arg X S hl 1 (by omega) (by decide) dL_1096 dL_1097 dL_1098 dL_1099 dL_1100 ?_
  refine q_arg X S hl 2 (by omega) (by decide) dL_1101 dL_1102 dL_1103 dL_1104 dL_1105 ?_
  refine q_arg X S hl 3 (by omega) (by decide) dL_1106 dL_1107 dL_1108 dL_1109 dL_1110 ?_
  refine q_vi X.1 S hl o_76 cf_11 (k_X11_sheet e2) vb_X11_sheet [.int (xs (i + 1)), .int (xs (i + 2)), .int (xs (i + 3))] rfl [.int r] rfl rfl (Nat.le_of_ble_eq_true rfl) ⟨(Nat.le_of_ble_eq_true rfl), (Nat.le_of_ble_eq_true rfl)⟩ ⟨(Nat.le_of_ble_eq_true rfl), (Nat.le_of_ble_eq_true rfl)⟩ dL_1111 (fun H locs S => ?_)
  refine lv_icmp_eq (tgt := 1387) X.1.1 X.1.2.1 dL_1114 (by decide) (fun _ => kk w2 H locs hI2 S) (fun z => absurd rfl z)
set_option maxHeartbeats 1000000 in
theorem lc_write (X : Lw D ad sx ca p s m c b L xs) (S : St D ad ca s w H locs) (hI : Inv w) {i : Nat} (hl : lv_has ls 4 (lvL ad b i)) (hi6 : i + 6 ≤ L) (kk : ∀ (w2 : Wd) (H1 : Heap) (locs1 : List Loc), Inv w2 → St D ad ca s w2 H1 locs1 → WL p l e s m b below meth c H1 locs1 Q (F0 m 1387 ls [])) : WL p l e s m b below meth c H locs Q (F0 m 1119 ls []) := by
  obtain ⟨r, w1, w2, e1, e2, hI2⟩ := op_write hI ((xs (i + 1))) ((xs (i + 2))) ((((xs (i + 3)).toInt64 <<< ((32 : Int32).toInt64 &&& 63)) ||| ((xs (i + 4)).toInt64 &&& 4294967295)))
  refine lv_aload_n X.1.1 X.1.2.1 dL_1119 rfl (lv_at hl 2 rfl) ?_
  refine q_arg X S hl 1 (by omega) (by decide) dL_1120 dL_1121 dL_1122 dL_1123 dL_1124 ?_
  refine q_arg X S hl 2 (by omega) (by decide) dL_1125 dL_1126 dL_1127 dL_1128 dL_1129 ?_
  refine q_arg X S hl 3 (by omega) (by decide) dL_1130 dL_1131 dL_1132 dL_1133 dL_1134 ?_
  refine lv_i2l X.1.1 X.1.2.1 dL_1135 rfl ?_
  refine lv_bipush (v := 32) X.1.1 X.1.2.1 dL_1136 (by decide) ?_
  refine lv_lshl X.1.1 X.1.2.1 dL_1138 rfl ?_
  refine q_arg X S hl 4 (by omega) (by decide) dL_1139 dL_1140 dL_1141 dL_1142 dL_1143 ?_
  refine lv_i2l X.1.1 X.1.2.1 dL_1144 rfl ?_
  refine lv_ldc2 (v := 4294967295) X.1.1 X.1.2.1 X.1.2.2.2.1 (X.1.2.2.2.2.1 _ v_6_14) dL_1145 ?_
  refine lv_land X.1.1 X.1.2.1 dL_1148 ?_
  refine lv_lor X.1.1 X.1.2.1 dL_1149 ?_
  refine q_vl X.1 S hl o_0 cf_10 (k_X10_write e1) vb_X10_write [.int (xs (i + 1)), .int (xs (i + 2)), .long (((xs (i + 3)).toInt64 <<< ((32 : Int32).toInt64 &&& 63)) ||| ((xs (i + 4)).toInt64 &&& 4294967295))] rfl [] rfl rfl (Nat.le_of_ble_eq_true rfl) ⟨(Nat.le_of_ble_eq_true rfl), (Nat.le_of_ble_eq_true rfl)⟩ ⟨(Nat.le_of_ble_eq_true rfl), (Nat.le_of_ble_eq_true rfl)⟩ dL_1150 (fun H locs S => ?_)
  refine lv_aload_n X.1.1 X.1.2.1 dL_1153 rfl (lv_at hl 1 rfl) ?_
  refine q_arg X S hl 1 (by omega) (by decide) dL_1154 dL_1155 dL_1156 dL_1157 dL_1158 ?_
  refine q_arg X S hl 2 (by omega) (by decide) dL_1159 dL_1160 dL_1161 dL_1162 dL_1163 ?_
  refine q_arg X S hl 3 (by omega) (by decide) dL_1164 dL_1165 dL_1166 dL_1167 dL_1168 ?_
  refine lv_i2l X.1.1 X.1.2.1 dL_1169 rfl ?_
  refine lv_bipush (v := 32) X.1.1 X.1.2.1 dL_1170 (by decide) ?_
  refine lv_lshl X.1.1 X.1.2.1 dL_1172 rfl ?_
  refine q_arg X S hl 4 (by omega) (by decide) dL_1173 dL_1174 dL_1175 dL_1176 dL_1177 ?_
  refine lv_i2l X.1.1 X.1.2.1 dL_1178 rfl ?_
  refine lv_ldc2 (v := 4294967295) X.1.1 X.1.2.1 X.1.2.2.2.1 (X.1.2.2.2.2.1 _ v_6_14) dL_1179 ?_
  refine lv_land X.1.1 X.1.2.1 dL_1182 ?_
  refine lv_lor X.1.1 X.1.2.1 dL_1183 ?_
  refine q_vl X.1 S hl o_76 cf_11 (k_X11_write e2) vb_X11_write [.int (xs (i + 1)), .int (xs (i + 2)), .long (((xs (i + 3)).toInt64 <<< ((32 : Int32).toInt64 &&& 63)) ||| ((xs (i + 4)).toInt64 &&& 4294967295))] rfl [.long r] rfl rfl (Nat.le_of_ble_eq_true rfl) ⟨(Nat.le_of_ble_eq_true rfl), (Nat.le_of_ble_eq_true rfl)⟩ ⟨(Nat.le_of_ble_eq_true rfl), (Nat.le_of_ble_eq_true rfl)⟩ dL_1184 (fun H locs S => ?_)
  refine W.lcmp X.1.1 X.1.2.1 dL_1187 ?_
  rw [lcmp_0]
  refine lv_if_eq (tgt := 1387) X.1.1 X.1.2.1 dL_1188 (by decide) (fun _ => kk w2 H locs hI2 S) (fun z => absurd rfl z)
set_option maxHeartbeats 1000000 in
theorem lc_copy (X : Lw D ad sx ca p s m c b L xs) (S : St D ad ca s w H locs) (hI : Inv w) {i : Nat} (hl : lv_has ls 4 (lvL ad b i)) (hi6 : i + 6 ≤ L) (kk : ∀ (w2 : Wd) (H1 : Heap) (locs1 : List Loc), Inv w2 → St D ad ca s w2 H1 locs1 → WL p l e s m b below meth c H1 locs1 Q (F0 m 1387 ls [])) : WL p l e s m b below meth c H locs Q (F0 m 1193 ls []) := by
  obtain ⟨r, w1, w2, e1, e2, hI2⟩ := op_copy hI ((xs (i + 1))) ((xs (i + 2))) ((xs (i + 3))) ((xs (i + 4))) ((xs (i + 5)))
  refine lv_aload_n X.1.1 X.1.2.1 dL_1193 rfl (lv_at hl 2 rfl) ?_
  refine q_arg X S hl 1 (by omega) (by decide) dL_1194 dL_1195 dL_1196 dL_1197 dL_1198 ?_
  refine q_arg X S hl 2 (by omega) (by decide) dL_1199 dL_1200 dL_1201 dL_1202 dL_1203 ?_
  refine q_arg X S hl 3 (by omega) (by decide) dL_1204 dL_1205 dL_1206 dL_1207 dL_1208 ?_
  refine q_arg X S hl 4 (by omega) (by decide) dL_1209 dL_1210 dL_1211 dL_1212 dL_1213 ?_
  refine q_arg X S hl 5 (by omega) (by decide) dL_1214 dL_1215 dL_1216 dL_1217 dL_1218 ?_
  refine q_vi X.1 S hl o_0 cf_10 (k_X10_copy e1) vb_X10_copy [.int (xs (i + 1)), .int (xs (i + 2)), .int (xs (i + 3)), .int (xs (i + 4)), .int (xs (i + 5))] rfl [] rfl rfl (Nat.le_of_ble_eq_true rfl) ⟨(Nat.le_of_ble_eq_true rfl), (Nat.le_of_ble_eq_true rfl)⟩ ⟨(Nat.le_of_ble_eq_true rfl), (Nat.le_of_ble_eq_true rfl)⟩ dL_1219 (fun H locs S => ?_)
  refine lv_aload_n X.1.1 X.1.2.1 dL_1222 rfl (lv_at hl 1 rfl) ?_
  refine q_arg X S hl 1 (by omega) (by decide) dL_1223 dL_1224 dL_1225 dL_1226 dL_1227 ?_
  refine q_arg X S hl 2 (by omega) (by decide) dL_1228 dL_1229 dL_1230 dL_1231 dL_1232 ?_
  refine q_arg X S hl 3 (by omega) (by decide) dL_1233 dL_1234 dL_1235 dL_1236 dL_1237 ?_
  refine q_arg X S hl 4 (by omega) (by decide) dL_1238 dL_1239 dL_1240 dL_1241 dL_1242 ?_
  refine q_arg X S hl 5 (by omega) (by decide) dL_1243 dL_1244 dL_1245 dL_1246 dL_1247 ?_
  refine q_vi X.1 S hl o_76 cf_11 (k_X11_copy e2) vb_X11_copy [.int (xs (i + 1)), .int (xs (i + 2)), .int (xs (i + 3)), .int (xs (i + 4)), .int (xs (i + 5))] rfl [.int r] rfl rfl (Nat.le_of_ble_eq_true rfl) ⟨(Nat.le_of_ble_eq_true rfl), (Nat.le_of_ble_eq_true rfl)⟩ ⟨(Nat.le_of_ble_eq_true rfl), (Nat.le_of_ble_eq_true rfl)⟩ dL_1248 (fun H locs S => ?_)
  refine lv_icmp_eq (tgt := 1387) X.1.1 X.1.2.1 dL_1251 (by decide) (fun _ => kk w2 H locs hI2 S) (fun z => absurd rfl z)
set_option maxHeartbeats 1000000 in
theorem lc_weather (X : Lw D ad sx ca p s m c b L xs) (S : St D ad ca s w H locs) (hI : Inv w) {i : Nat} (hl : lv_has ls 4 (lvL ad b i)) (hi6 : i + 6 ≤ L) (kk : ∀ (w2 : Wd) (H1 : Heap) (locs1 : List Loc), Inv w2 → St D ad ca s w2 H1 locs1 → WL p l e s m b below meth c H1 locs1 Q (F0 m 1387 ls [])) : WL p l e s m b below meth c H locs Q (F0 m 1256 ls []) := by
  obtain ⟨r, w1, w2, e1, e2, hI2⟩ := op_weather hI ((xs (i + 1)))
  refine lv_aload_n X.1.1 X.1.2.1 dL_1256 rfl (lv_at hl 2 rfl) ?_
  refine q_arg X S hl 1 (by omega) (by decide) dL_1257 dL_1258 dL_1259 dL_1260 dL_1261 ?_
  refine q_vi X.1 S hl o_0 cf_10 (k_X10_weather e1) vb_X10_weather [.int (xs (i + 1))] rfl [] rfl rfl (Nat.le_of_ble_eq_true rfl) ⟨(Nat.le_of_ble_eq_true rfl), (Nat.le_of_ble_eq_true rfl)⟩ ⟨(Nat.le_of_ble_eq_true rfl), (Nat.le_of_ble_eq_true rfl)⟩ dL_1262 (fun H locs S => ?_)
  refine lv_aload_n X.1.1 X.1.2.1 dL_1265 rfl (lv_at hl 1 rfl) ?_
  refine q_arg X S hl 1 (by omega) (by decide) dL_1266 dL_1267 dL_1268 dL_1269 dL_1270 ?_
  refine q_vi X.1 S hl o_76 cf_11 (k_X11_weather e2) vb_X11_weather [.int (xs (i + 1))] rfl [.int r] rfl rfl (Nat.le_of_ble_eq_true rfl) ⟨(Nat.le_of_ble_eq_true rfl), (Nat.le_of_ble_eq_true rfl)⟩ ⟨(Nat.le_of_ble_eq_true rfl), (Nat.le_of_ble_eq_true rfl)⟩ dL_1271 (fun H locs S => ?_)
  refine lv_icmp_eq (tgt := 1387) X.1.1 X.1.2.1 dL_1274 (by decide) (fun _ => kk w2 H locs hI2 S) (fun z => absurd rfl z)
set_option maxHeartbeats 1000000 in
theorem lc_read (X : Lw D ad sx ca p s m c b L xs) (S : St D ad ca s w H locs) (hI : Inv w) {i : Nat} (hl : lv_has ls 4 (lvL ad b i)) (hi6 : i + 6 ≤ L) (kk : ∀ (w2 : Wd) (H1 : Heap) (locs1 : List Loc), Inv w2 → St D ad ca s w2 H1 locs1 → WL p l e s m b below meth c H1 locs1 Q (F0 m 1387 ls [])) : WL p l e s m b below meth c H locs Q (F0 m 1279 ls []) := by
  obtain ⟨r, w1, w2, e1, e2, hI2⟩ := op_read hI ((xs (i + 1)))
  refine lv_aload_n X.1.1 X.1.2.1 dL_1279 rfl (lv_at hl 2 rfl) ?_
  refine q_arg X S hl 1 (by omega) (by decide) dL_1280 dL_1281 dL_1282 dL_1283 dL_1284 ?_
  refine q_vi X.1 S hl o_0 cf_10 (k_X10_read e1) vb_X10_read [.int (xs (i + 1))] rfl [] rfl rfl (Nat.le_of_ble_eq_true rfl) ⟨(Nat.le_of_ble_eq_true rfl), (Nat.le_of_ble_eq_true rfl)⟩ ⟨(Nat.le_of_ble_eq_true rfl), (Nat.le_of_ble_eq_true rfl)⟩ dL_1285 (fun H locs S => ?_)
  refine lv_aload_n X.1.1 X.1.2.1 dL_1288 rfl (lv_at hl 1 rfl) ?_
  refine q_arg X S hl 1 (by omega) (by decide) dL_1289 dL_1290 dL_1291 dL_1292 dL_1293 ?_
  refine q_vi X.1 S hl o_76 cf_11 (k_X11_read e2) vb_X11_read [.int (xs (i + 1))] rfl [.int r] rfl rfl (Nat.le_of_ble_eq_true rfl) ⟨(Nat.le_of_ble_eq_true rfl), (Nat.le_of_ble_eq_true rfl)⟩ ⟨(Nat.le_of_ble_eq_true rfl), (Nat.le_of_ble_eq_true rfl)⟩ dL_1294 (fun H locs S => ?_)
  refine lv_icmp_eq (tgt := 1387) X.1.1 X.1.2.1 dL_1297 (by decide) (fun _ => kk w2 H locs hI2 S) (fun z => absurd rfl z)
set_option maxHeartbeats 1000000 in
theorem lc_image (X : Lw D ad sx ca p s m c b L xs) (S : St D ad ca s w H locs) (hI : Inv w) {i : Nat} (hl : lv_has ls 4 (lvL ad b i)) (hi6 : i + 6 ≤ L) (kk : ∀ (w2 : Wd) (H1 : Heap) (locs1 : List Loc), Inv w2 → St D ad ca s w2 H1 locs1 → WL p l e s m b below meth c H1 locs1 Q (F0 m 1387 ls [])) : WL p l e s m b below meth c H locs Q (F0 m 1302 ls []) := by
  obtain ⟨r, w1, w2, e1, e2, hI2⟩ := op_image hI 
  refine lv_aload_n X.1.1 X.1.2.1 dL_1302 rfl (lv_at hl 2 rfl) ?_
  refine q_vi X.1 S hl o_0 cf_10 (k_X10_image e1) vb_X10_image [] rfl [] rfl rfl (Nat.le_of_ble_eq_true rfl) ⟨(Nat.le_of_ble_eq_true rfl), (Nat.le_of_ble_eq_true rfl)⟩ ⟨(Nat.le_of_ble_eq_true rfl), (Nat.le_of_ble_eq_true rfl)⟩ dL_1303 (fun H locs S => ?_)
  refine lv_aload_n X.1.1 X.1.2.1 dL_1306 rfl (lv_at hl 1 rfl) ?_
  refine q_vi X.1 S hl o_76 cf_11 (k_X11_image e2) vb_X11_image [] rfl [.int r] rfl rfl (Nat.le_of_ble_eq_true rfl) ⟨(Nat.le_of_ble_eq_true rfl), (Nat.le_of_ble_eq_true rfl)⟩ ⟨(Nat.le_of_ble_eq_true rfl), (Nat.le_of_ble_eq_true rfl)⟩ dL_1307 (fun H locs S => ?_)
  refine lv_icmp_eq (tgt := 1387) X.1.1 X.1.2.1 dL_1310 (by decide) (fun _ => kk w2 H locs hI2 S) (fun z => absurd rfl z)
set_option maxHeartbeats 1000000 in
theorem lc_undo (X : Lw D ad sx ca p s m c b L xs) (S : St D ad ca s w H locs) (hI : Inv w) {i : Nat} (hl : lv_has ls 4 (lvL ad b i)) (hi6 : i + 6 ≤ L) (kk : ∀ (w2 : Wd) (H1 : Heap) (locs1 : List Loc), Inv w2 → St D ad ca s w2 H1 locs1 → WL p l e s m b below meth c H1 locs1 Q (F0 m 1387 ls [])) : WL p l e s m b below meth c H locs Q (F0 m 1315 ls []) := by
  obtain ⟨r, w1, w2, e1, e2, hI2⟩ := op_undo hI 
  refine lv_aload_n X.1.1 X.1.2.1 dL_1315 rfl (lv_at hl 2 rfl) ?_
  refine q_vi X.1 S hl o_0 cf_10 (k_X10_undo e1) vb_X10_undo [] rfl [] rfl rfl (Nat.le_of_ble_eq_true rfl) ⟨(Nat.le_of_ble_eq_true rfl), (Nat.le_of_ble_eq_true rfl)⟩ ⟨(Nat.le_of_ble_eq_true rfl), (Nat.le_of_ble_eq_true rfl)⟩ dL_1316 (fun H locs S => ?_)
  refine lv_aload_n X.1.1 X.1.2.1 dL_1319 rfl (lv_at hl 1 rfl) ?_
  refine q_vi X.1 S hl o_76 cf_11 (k_X11_undo e2) vb_X11_undo [] rfl [.int r] rfl rfl (Nat.le_of_ble_eq_true rfl) ⟨(Nat.le_of_ble_eq_true rfl), (Nat.le_of_ble_eq_true rfl)⟩ ⟨(Nat.le_of_ble_eq_true rfl), (Nat.le_of_ble_eq_true rfl)⟩ dL_1320 (fun H locs S => ?_)
  refine lv_icmp_eq (tgt := 1387) X.1.1 X.1.2.1 dL_1323 (by decide) (fun _ => kk w2 H locs hI2 S) (fun z => absurd rfl z)
set_option maxHeartbeats 1000000 in
theorem lc_tear (X : Lw D ad sx ca p s m c b L xs) (S : St D ad ca s w H locs) (hI : Inv w) {i : Nat} (hl : lv_has ls 4 (lvL ad b i)) (hi6 : i + 6 ≤ L) (kk : ∀ (w2 : Wd) (H1 : Heap) (locs1 : List Loc), Inv w2 → St D ad ca s w2 H1 locs1 → WL p l e s m b below meth c H1 locs1 Q (F0 m 1387 ls [])) : WL p l e s m b below meth c H locs Q (F0 m 1328 ls []) := by
  obtain ⟨r, w1, w2, e1, e2, hI2⟩ := op_tear hI 
  refine lv_aload_n X.1.1 X.1.2.1 dL_1328 rfl (lv_at hl 2 rfl) ?_
  refine q_vi X.1 S hl o_0 cf_10 (k_X10_tear e1) vb_X10_tear [] rfl [] rfl rfl (Nat.le_of_ble_eq_true rfl) ⟨(Nat.le_of_ble_eq_true rfl), (Nat.le_of_ble_eq_true rfl)⟩ ⟨(Nat.le_of_ble_eq_true rfl), (Nat.le_of_ble_eq_true rfl)⟩ dL_1329 (fun H locs S => ?_)
  refine lv_aload_n X.1.1 X.1.2.1 dL_1332 rfl (lv_at hl 1 rfl) ?_
  refine q_vi X.1 S hl o_76 cf_11 (k_X11_tear e2) vb_X11_tear [] rfl [.int r] rfl rfl (Nat.le_of_ble_eq_true rfl) ⟨(Nat.le_of_ble_eq_true rfl), (Nat.le_of_ble_eq_true rfl)⟩ ⟨(Nat.le_of_ble_eq_true rfl), (Nat.le_of_ble_eq_true rfl)⟩ dL_1333 (fun H locs S => ?_)
  refine lv_icmp_eq (tgt := 1387) X.1.1 X.1.2.1 dL_1336 (by decide) (fun _ => kk w2 H locs hI2 S) (fun z => absurd rfl z)
set_option maxHeartbeats 1000000 in
theorem lc_count (X : Lw D ad sx ca p s m c b L xs) (S : St D ad ca s w H locs) (hI : Inv w) {i : Nat} (hl : lv_has ls 4 (lvL ad b i)) (hi6 : i + 6 ≤ L) (kk : ∀ (w2 : Wd) (H1 : Heap) (locs1 : List Loc), Inv w2 → St D ad ca s w2 H1 locs1 → WL p l e s m b below meth c H1 locs1 Q (F0 m 1387 ls [])) : WL p l e s m b below meth c H locs Q (F0 m 1341 ls []) := by
  obtain ⟨r, w1, w2, e1, e2, hI2⟩ := op_count hI ((xs (i + 1)))
  refine lv_aload_n X.1.1 X.1.2.1 dL_1341 rfl (lv_at hl 2 rfl) ?_
  refine q_arg X S hl 1 (by omega) (by decide) dL_1342 dL_1343 dL_1344 dL_1345 dL_1346 ?_
  refine q_vi X.1 S hl o_0 cf_10 (k_X10_count e1) vb_X10_count [.int (xs (i + 1))] rfl [] rfl rfl (Nat.le_of_ble_eq_true rfl) ⟨(Nat.le_of_ble_eq_true rfl), (Nat.le_of_ble_eq_true rfl)⟩ ⟨(Nat.le_of_ble_eq_true rfl), (Nat.le_of_ble_eq_true rfl)⟩ dL_1347 (fun H locs S => ?_)
  refine lv_aload_n X.1.1 X.1.2.1 dL_1350 rfl (lv_at hl 1 rfl) ?_
  refine q_arg X S hl 1 (by omega) (by decide) dL_1351 dL_1352 dL_1353 dL_1354 dL_1355 ?_
  refine q_vi X.1 S hl o_76 cf_11 (k_X11_count e2) vb_X11_count [.int (xs (i + 1))] rfl [.int r] rfl rfl (Nat.le_of_ble_eq_true rfl) ⟨(Nat.le_of_ble_eq_true rfl), (Nat.le_of_ble_eq_true rfl)⟩ ⟨(Nat.le_of_ble_eq_true rfl), (Nat.le_of_ble_eq_true rfl)⟩ dL_1356 (fun H locs S => ?_)
  refine lv_icmp_eq (tgt := 1387) X.1.1 X.1.2.1 dL_1359 (by decide) (fun _ => kk w2 H locs hI2 S) (fun z => absurd rfl z)
set_option maxHeartbeats 1000000 in
theorem lc_status (X : Lw D ad sx ca p s m c b L xs) (S : St D ad ca s w H locs) (hI : Inv w) {i : Nat} (hl : lv_has ls 4 (lvL ad b i)) (hi6 : i + 6 ≤ L) (kk : ∀ (w2 : Wd) (H1 : Heap) (locs1 : List Loc), Inv w2 → St D ad ca s w2 H1 locs1 → WL p l e s m b below meth c H1 locs1 Q (F0 m 1387 ls [])) : WL p l e s m b below meth c H locs Q (F0 m 1364 ls []) := by
  obtain ⟨r, w1, w2, e1, e2, hI2⟩ := op_status hI ((xs (i + 1)))
  refine lv_aload_n X.1.1 X.1.2.1 dL_1364 rfl (lv_at hl 2 rfl) ?_
  refine q_arg X S hl 1 (by omega) (by decide) dL_1365 dL_1366 dL_1367 dL_1368 dL_1369 ?_
  refine q_vi X.1 S hl o_0 cf_10 (k_X10_status e1) vb_X10_status [.int (xs (i + 1))] rfl [] rfl rfl (Nat.le_of_ble_eq_true rfl) ⟨(Nat.le_of_ble_eq_true rfl), (Nat.le_of_ble_eq_true rfl)⟩ ⟨(Nat.le_of_ble_eq_true rfl), (Nat.le_of_ble_eq_true rfl)⟩ dL_1370 (fun H locs S => ?_)
  refine lv_aload_n X.1.1 X.1.2.1 dL_1373 rfl (lv_at hl 1 rfl) ?_
  refine q_arg X S hl 1 (by omega) (by decide) dL_1374 dL_1375 dL_1376 dL_1377 dL_1378 ?_
  refine q_vi X.1 S hl o_76 cf_11 (k_X11_status e2) vb_X11_status [.int (xs (i + 1))] rfl [.int r] rfl rfl (Nat.le_of_ble_eq_true rfl) ⟨(Nat.le_of_ble_eq_true rfl), (Nat.le_of_ble_eq_true rfl)⟩ ⟨(Nat.le_of_ble_eq_true rfl), (Nat.le_of_ble_eq_true rfl)⟩ dL_1379 (fun H locs S => ?_)
  refine lv_icmp_eq (tgt := 1387) X.1.1 X.1.2.1 dL_1382 (by decide) (fun _ => kk w2 H locs hI2 S) (fun z => absurd rfl z)
end LAWC2
