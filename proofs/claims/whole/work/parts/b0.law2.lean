/-! WHAT STANDS AT EVERY PLACE OF THE LAW, 2 -/
theorem cl361_10 : ([(788, .iload 5, 790), (790, .if_icmp .eq 5, 793), (793, .iconst 0, 794), (794, .ireturn, 795), (795, .iload 5, 797), (797, .ifCond .ne 15, 800), (800, .aload_n 3, 801), (801, .iconst 0, 802), (802, .laload, 803), (803, .iload 6, 805), (805, .i2l, 806), (806, .lcmp, 807), (807, .ifCond .eq 5, 810), (810, .iconst 0, 811), (811, .ireturn, 812), (812, .goto 1764, 815), (815, .aload_n 1, 816), (816, .aload_n 0, 817), (817, .iload 4, 819), (819, .iconst 1, 820), (820, .iadd, 821), (821, .iaload, 822), (822, .aload_n 3, 823), (823, .invokestatic 162, 826), (826, .istore 5, 828), (828, .aload_n 2, 829), (829, .aload_n 0, 830), (830, .iload 4, 832), (832, .iconst 1, 833), (833, .iadd, 834), (834, .iaload, 835), (835, .invokevirtual 164, 838), (838, .istore 6, 840), (840, .aload_n 2, 841), (841, .invokevirtual 128, 844), (844, .iload 5, 846), (846, .if_icmp .eq 5, 849), (849, .iconst 0, 850), (850, .ireturn, 851), (851, .iload 5, 853)] : List (Nat × Instr × Nat)).all (fun q => decide (pm_code 361 q.1 = some q.2)) = true := by decide +kernel
theorem c361_788 : pm_code 361 788 = some (.iload 5, 790) := pm_of cl361_10 0 (q := (788, .iload 5, 790)) rfl
theorem c361_790 : pm_code 361 790 = some (.if_icmp .eq 5, 793) := pm_of cl361_10 1 (q := (790, .if_icmp .eq 5, 793)) rfl
theorem c361_793 : pm_code 361 793 = some (.iconst 0, 794) := pm_of cl361_10 2 (q := (793, .iconst 0, 794)) rfl
theorem c361_794 : pm_code 361 794 = some (.ireturn, 795) := pm_of cl361_10 3 (q := (794, .ireturn, 795)) rfl
theorem c361_795 : pm_code 361 795 = some (.iload 5, 797) := pm_of cl361_10 4 (q := (795, .iload 5, 797)) rfl
theorem c361_797 : pm_code 361 797 = some (.ifCond .ne 15, 800) := pm_of cl361_10 5 (q := (797, .ifCond .ne 15, 800)) rfl
theorem c361_800 : pm_code 361 800 = some (.aload_n 3, 801) := pm_of cl361_10 6 (q := (800, .aload_n 3, 801)) rfl
theorem c361_801 : pm_code 361 801 = some (.iconst 0, 802) := pm_of cl361_10 7 (q := (801, .iconst 0, 802)) rfl
theorem c361_802 : pm_code 361 802 = some (.laload, 803) := pm_of cl361_10 8 (q := (802, .laload, 803)) rfl
theorem c361_803 : pm_code 361 803 = some (.iload 6, 805) := pm_of cl361_10 9 (q := (803, .iload 6, 805)) rfl
theorem c361_805 : pm_code 361 805 = some (.i2l, 806) := pm_of cl361_10 10 (q := (805, .i2l, 806)) rfl
theorem c361_806 : pm_code 361 806 = some (.lcmp, 807) := pm_of cl361_10 11 (q := (806, .lcmp, 807)) rfl
theorem c361_807 : pm_code 361 807 = some (.ifCond .eq 5, 810) := pm_of cl361_10 12 (q := (807, .ifCond .eq 5, 810)) rfl
theorem c361_810 : pm_code 361 810 = some (.iconst 0, 811) := pm_of cl361_10 13 (q := (810, .iconst 0, 811)) rfl
theorem c361_811 : pm_code 361 811 = some (.ireturn, 812) := pm_of cl361_10 14 (q := (811, .ireturn, 812)) rfl
theorem c361_812 : pm_code 361 812 = some (.goto 1764, 815) := pm_of cl361_10 15 (q := (812, .goto 1764, 815)) rfl
theorem c361_815 : pm_code 361 815 = some (.aload_n 1, 816) := pm_of cl361_10 16 (q := (815, .aload_n 1, 816)) rfl
theorem c361_816 : pm_code 361 816 = some (.aload_n 0, 817) := pm_of cl361_10 17 (q := (816, .aload_n 0, 817)) rfl
theorem c361_817 : pm_code 361 817 = some (.iload 4, 819) := pm_of cl361_10 18 (q := (817, .iload 4, 819)) rfl
theorem c361_819 : pm_code 361 819 = some (.iconst 1, 820) := pm_of cl361_10 19 (q := (819, .iconst 1, 820)) rfl
theorem c361_820 : pm_code 361 820 = some (.iadd, 821) := pm_of cl361_10 20 (q := (820, .iadd, 821)) rfl
theorem c361_821 : pm_code 361 821 = some (.iaload, 822) := pm_of cl361_10 21 (q := (821, .iaload, 822)) rfl
theorem c361_822 : pm_code 361 822 = some (.aload_n 3, 823) := pm_of cl361_10 22 (q := (822, .aload_n 3, 823)) rfl
theorem c361_823 : pm_code 361 823 = some (.invokestatic 162, 826) := pm_of cl361_10 23 (q := (823, .invokestatic 162, 826)) rfl
theorem c361_826 : pm_code 361 826 = some (.istore 5, 828) := pm_of cl361_10 24 (q := (826, .istore 5, 828)) rfl
theorem c361_828 : pm_code 361 828 = some (.aload_n 2, 829) := pm_of cl361_10 25 (q := (828, .aload_n 2, 829)) rfl
theorem c361_829 : pm_code 361 829 = some (.aload_n 0, 830) := pm_of cl361_10 26 (q := (829, .aload_n 0, 830)) rfl
theorem c361_830 : pm_code 361 830 = some (.iload 4, 832) := pm_of cl361_10 27 (q := (830, .iload 4, 832)) rfl
theorem c361_832 : pm_code 361 832 = some (.iconst 1, 833) := pm_of cl361_10 28 (q := (832, .iconst 1, 833)) rfl
theorem c361_833 : pm_code 361 833 = some (.iadd, 834) := pm_of cl361_10 29 (q := (833, .iadd, 834)) rfl
theorem c361_834 : pm_code 361 834 = some (.iaload, 835) := pm_of cl361_10 30 (q := (834, .iaload, 835)) rfl
theorem c361_835 : pm_code 361 835 = some (.invokevirtual 164, 838) := pm_of cl361_10 31 (q := (835, .invokevirtual 164, 838)) rfl
theorem c361_838 : pm_code 361 838 = some (.istore 6, 840) := pm_of cl361_10 32 (q := (838, .istore 6, 840)) rfl
theorem c361_840 : pm_code 361 840 = some (.aload_n 2, 841) := pm_of cl361_10 33 (q := (840, .aload_n 2, 841)) rfl
theorem c361_841 : pm_code 361 841 = some (.invokevirtual 128, 844) := pm_of cl361_10 34 (q := (841, .invokevirtual 128, 844)) rfl
theorem c361_844 : pm_code 361 844 = some (.iload 5, 846) := pm_of cl361_10 35 (q := (844, .iload 5, 846)) rfl
theorem c361_846 : pm_code 361 846 = some (.if_icmp .eq 5, 849) := pm_of cl361_10 36 (q := (846, .if_icmp .eq 5, 849)) rfl
theorem c361_849 : pm_code 361 849 = some (.iconst 0, 850) := pm_of cl361_10 37 (q := (849, .iconst 0, 850)) rfl
theorem c361_850 : pm_code 361 850 = some (.ireturn, 851) := pm_of cl361_10 38 (q := (850, .ireturn, 851)) rfl
theorem c361_851 : pm_code 361 851 = some (.iload 5, 853) := pm_of cl361_10 39 (q := (851, .iload 5, 853)) rfl
theorem cl361_11 : ([(853, .ifCond .ne 15, 856), (856, .aload_n 3, 857), (857, .iconst 0, 858), (858, .laload, 859), (859, .iload 6, 861), (861, .i2l, 862), (862, .lcmp, 863), (863, .ifCond .eq 5, 866), (866, .iconst 0, 867), (867, .ireturn, 868), (868, .goto 1708, 871), (871, .aload_n 1, 872), (872, .aload_n 0, 873), (873, .iload 4, 875), (875, .iconst 1, 876), (876, .iadd, 877), (877, .iaload, 878), (878, .aload_n 0, 879), (879, .iload 4, 881), (881, .iconst 2, 882), (882, .iadd, 883), (883, .iaload, 884), (884, .aload_n 0, 885), (885, .iload 4, 887), (887, .iconst 3, 888), (888, .iadd, 889), (889, .iaload, 890), (890, .aload_n 0, 891), (891, .iload 4, 893), (893, .iconst 4, 894), (894, .iadd, 895), (895, .iaload, 896), (896, .aload_n 0, 897), (897, .iload 4, 899), (899, .iconst 5, 900), (900, .iadd, 901), (901, .iaload, 902), (902, .aload_n 0, 903), (903, .iload 4, 905), (905, .bipush 6, 907)] : List (Nat × Instr × Nat)).all (fun q => decide (pm_code 361 q.1 = some q.2)) = true := by decide +kernel
theorem c361_853 : pm_code 361 853 = some (.ifCond .ne 15, 856) := pm_of cl361_11 0 (q := (853, .ifCond .ne 15, 856)) rfl
theorem c361_856 : pm_code 361 856 = some (.aload_n 3, 857) := pm_of cl361_11 1 (q := (856, .aload_n 3, 857)) rfl
theorem c361_857 : pm_code 361 857 = some (.iconst 0, 858) := pm_of cl361_11 2 (q := (857, .iconst 0, 858)) rfl
theorem c361_858 : pm_code 361 858 = some (.laload, 859) := pm_of cl361_11 3 (q := (858, .laload, 859)) rfl
theorem c361_859 : pm_code 361 859 = some (.iload 6, 861) := pm_of cl361_11 4 (q := (859, .iload 6, 861)) rfl
theorem c361_861 : pm_code 361 861 = some (.i2l, 862) := pm_of cl361_11 5 (q := (861, .i2l, 862)) rfl
theorem c361_862 : pm_code 361 862 = some (.lcmp, 863) := pm_of cl361_11 6 (q := (862, .lcmp, 863)) rfl
theorem c361_863 : pm_code 361 863 = some (.ifCond .eq 5, 866) := pm_of cl361_11 7 (q := (863, .ifCond .eq 5, 866)) rfl
theorem c361_866 : pm_code 361 866 = some (.iconst 0, 867) := pm_of cl361_11 8 (q := (866, .iconst 0, 867)) rfl
theorem c361_867 : pm_code 361 867 = some (.ireturn, 868) := pm_of cl361_11 9 (q := (867, .ireturn, 868)) rfl
theorem c361_868 : pm_code 361 868 = some (.goto 1708, 871) := pm_of cl361_11 10 (q := (868, .goto 1708, 871)) rfl
theorem c361_871 : pm_code 361 871 = some (.aload_n 1, 872) := pm_of cl361_11 11 (q := (871, .aload_n 1, 872)) rfl
theorem c361_872 : pm_code 361 872 = some (.aload_n 0, 873) := pm_of cl361_11 12 (q := (872, .aload_n 0, 873)) rfl
theorem c361_873 : pm_code 361 873 = some (.iload 4, 875) := pm_of cl361_11 13 (q := (873, .iload 4, 875)) rfl
theorem c361_875 : pm_code 361 875 = some (.iconst 1, 876) := pm_of cl361_11 14 (q := (875, .iconst 1, 876)) rfl
theorem c361_876 : pm_code 361 876 = some (.iadd, 877) := pm_of cl361_11 15 (q := (876, .iadd, 877)) rfl
theorem c361_877 : pm_code 361 877 = some (.iaload, 878) := pm_of cl361_11 16 (q := (877, .iaload, 878)) rfl
theorem c361_878 : pm_code 361 878 = some (.aload_n 0, 879) := pm_of cl361_11 17 (q := (878, .aload_n 0, 879)) rfl
theorem c361_879 : pm_code 361 879 = some (.iload 4, 881) := pm_of cl361_11 18 (q := (879, .iload 4, 881)) rfl
theorem c361_881 : pm_code 361 881 = some (.iconst 2, 882) := pm_of cl361_11 19 (q := (881, .iconst 2, 882)) rfl
theorem c361_882 : pm_code 361 882 = some (.iadd, 883) := pm_of cl361_11 20 (q := (882, .iadd, 883)) rfl
theorem c361_883 : pm_code 361 883 = some (.iaload, 884) := pm_of cl361_11 21 (q := (883, .iaload, 884)) rfl
theorem c361_884 : pm_code 361 884 = some (.aload_n 0, 885) := pm_of cl361_11 22 (q := (884, .aload_n 0, 885)) rfl
theorem c361_885 : pm_code 361 885 = some (.iload 4, 887) := pm_of cl361_11 23 (q := (885, .iload 4, 887)) rfl
theorem c361_887 : pm_code 361 887 = some (.iconst 3, 888) := pm_of cl361_11 24 (q := (887, .iconst 3, 888)) rfl
theorem c361_888 : pm_code 361 888 = some (.iadd, 889) := pm_of cl361_11 25 (q := (888, .iadd, 889)) rfl
theorem c361_889 : pm_code 361 889 = some (.iaload, 890) := pm_of cl361_11 26 (q := (889, .iaload, 890)) rfl
theorem c361_890 : pm_code 361 890 = some (.aload_n 0, 891) := pm_of cl361_11 27 (q := (890, .aload_n 0, 891)) rfl
theorem c361_891 : pm_code 361 891 = some (.iload 4, 893) := pm_of cl361_11 28 (q := (891, .iload 4, 893)) rfl
theorem c361_893 : pm_code 361 893 = some (.iconst 4, 894) := pm_of cl361_11 29 (q := (893, .iconst 4, 894)) rfl
theorem c361_894 : pm_code 361 894 = some (.iadd, 895) := pm_of cl361_11 30 (q := (894, .iadd, 895)) rfl
theorem c361_895 : pm_code 361 895 = some (.iaload, 896) := pm_of cl361_11 31 (q := (895, .iaload, 896)) rfl
theorem c361_896 : pm_code 361 896 = some (.aload_n 0, 897) := pm_of cl361_11 32 (q := (896, .aload_n 0, 897)) rfl
theorem c361_897 : pm_code 361 897 = some (.iload 4, 899) := pm_of cl361_11 33 (q := (897, .iload 4, 899)) rfl
theorem c361_899 : pm_code 361 899 = some (.iconst 5, 900) := pm_of cl361_11 34 (q := (899, .iconst 5, 900)) rfl
theorem c361_900 : pm_code 361 900 = some (.iadd, 901) := pm_of cl361_11 35 (q := (900, .iadd, 901)) rfl
theorem c361_901 : pm_code 361 901 = some (.iaload, 902) := pm_of cl361_11 36 (q := (901, .iaload, 902)) rfl
theorem c361_902 : pm_code 361 902 = some (.aload_n 0, 903) := pm_of cl361_11 37 (q := (902, .aload_n 0, 903)) rfl
theorem c361_903 : pm_code 361 903 = some (.iload 4, 905) := pm_of cl361_11 38 (q := (903, .iload 4, 905)) rfl
theorem c361_905 : pm_code 361 905 = some (.bipush 6, 907) := pm_of cl361_11 39 (q := (905, .bipush 6, 907)) rfl
theorem cl361_12 : ([(907, .iadd, 908), (908, .iaload, 909), (909, .aload_n 3, 910), (910, .invokestatic 165, 913), (913, .istore 5, 915), (915, .aload_n 2, 916), (916, .aload_n 0, 917), (917, .iload 4, 919), (919, .iconst 1, 920), (920, .iadd, 921), (921, .iaload, 922), (922, .aload_n 0, 923), (923, .iload 4, 925), (925, .iconst 2, 926), (926, .iadd, 927), (927, .iaload, 928), (928, .aload_n 0, 929), (929, .iload 4, 931), (931, .iconst 3, 932), (932, .iadd, 933), (933, .iaload, 934), (934, .aload_n 0, 935), (935, .iload 4, 937), (937, .iconst 4, 938), (938, .iadd, 939), (939, .iaload, 940), (940, .aload_n 0, 941), (941, .iload 4, 943), (943, .iconst 5, 944), (944, .iadd, 945), (945, .iaload, 946), (946, .aload_n 0, 947), (947, .iload 4, 949), (949, .bipush 6, 951), (951, .iadd, 952), (952, .iaload, 953), (953, .invokevirtual 168, 956), (956, .istore 6, 958), (958, .aload_n 2, 959), (959, .invokevirtual 128, 962)] : List (Nat × Instr × Nat)).all (fun q => decide (pm_code 361 q.1 = some q.2)) = true := by decide +kernel
theorem c361_907 : pm_code 361 907 = some (.iadd, 908) := pm_of cl361_12 0 (q := (907, .iadd, 908)) rfl
theorem c361_908 : pm_code 361 908 = some (.iaload, 909) := pm_of cl361_12 1 (q := (908, .iaload, 909)) rfl
theorem c361_909 : pm_code 361 909 = some (.aload_n 3, 910) := pm_of cl361_12 2 (q := (909, .aload_n 3, 910)) rfl
theorem c361_910 : pm_code 361 910 = some (.invokestatic 165, 913) := pm_of cl361_12 3 (q := (910, .invokestatic 165, 913)) rfl
theorem c361_913 : pm_code 361 913 = some (.istore 5, 915) := pm_of cl361_12 4 (q := (913, .istore 5, 915)) rfl
theorem c361_915 : pm_code 361 915 = some (.aload_n 2, 916) := pm_of cl361_12 5 (q := (915, .aload_n 2, 916)) rfl
theorem c361_916 : pm_code 361 916 = some (.aload_n 0, 917) := pm_of cl361_12 6 (q := (916, .aload_n 0, 917)) rfl
theorem c361_917 : pm_code 361 917 = some (.iload 4, 919) := pm_of cl361_12 7 (q := (917, .iload 4, 919)) rfl
theorem c361_919 : pm_code 361 919 = some (.iconst 1, 920) := pm_of cl361_12 8 (q := (919, .iconst 1, 920)) rfl
theorem c361_920 : pm_code 361 920 = some (.iadd, 921) := pm_of cl361_12 9 (q := (920, .iadd, 921)) rfl
theorem c361_921 : pm_code 361 921 = some (.iaload, 922) := pm_of cl361_12 10 (q := (921, .iaload, 922)) rfl
theorem c361_922 : pm_code 361 922 = some (.aload_n 0, 923) := pm_of cl361_12 11 (q := (922, .aload_n 0, 923)) rfl
theorem c361_923 : pm_code 361 923 = some (.iload 4, 925) := pm_of cl361_12 12 (q := (923, .iload 4, 925)) rfl
theorem c361_925 : pm_code 361 925 = some (.iconst 2, 926) := pm_of cl361_12 13 (q := (925, .iconst 2, 926)) rfl
theorem c361_926 : pm_code 361 926 = some (.iadd, 927) := pm_of cl361_12 14 (q := (926, .iadd, 927)) rfl
theorem c361_927 : pm_code 361 927 = some (.iaload, 928) := pm_of cl361_12 15 (q := (927, .iaload, 928)) rfl
theorem c361_928 : pm_code 361 928 = some (.aload_n 0, 929) := pm_of cl361_12 16 (q := (928, .aload_n 0, 929)) rfl
theorem c361_929 : pm_code 361 929 = some (.iload 4, 931) := pm_of cl361_12 17 (q := (929, .iload 4, 931)) rfl
theorem c361_931 : pm_code 361 931 = some (.iconst 3, 932) := pm_of cl361_12 18 (q := (931, .iconst 3, 932)) rfl
theorem c361_932 : pm_code 361 932 = some (.iadd, 933) := pm_of cl361_12 19 (q := (932, .iadd, 933)) rfl
theorem c361_933 : pm_code 361 933 = some (.iaload, 934) := pm_of cl361_12 20 (q := (933, .iaload, 934)) rfl
theorem c361_934 : pm_code 361 934 = some (.aload_n 0, 935) := pm_of cl361_12 21 (q := (934, .aload_n 0, 935)) rfl
theorem c361_935 : pm_code 361 935 = some (.iload 4, 937) := pm_of cl361_12 22 (q := (935, .iload 4, 937)) rfl
theorem c361_937 : pm_code 361 937 = some (.iconst 4, 938) := pm_of cl361_12 23 (q := (937, .iconst 4, 938)) rfl
theorem c361_938 : pm_code 361 938 = some (.iadd, 939) := pm_of cl361_12 24 (q := (938, .iadd, 939)) rfl
theorem c361_939 : pm_code 361 939 = some (.iaload, 940) := pm_of cl361_12 25 (q := (939, .iaload, 940)) rfl
theorem c361_940 : pm_code 361 940 = some (.aload_n 0, 941) := pm_of cl361_12 26 (q := (940, .aload_n 0, 941)) rfl
theorem c361_941 : pm_code 361 941 = some (.iload 4, 943) := pm_of cl361_12 27 (q := (941, .iload 4, 943)) rfl
theorem c361_943 : pm_code 361 943 = some (.iconst 5, 944) := pm_of cl361_12 28 (q := (943, .iconst 5, 944)) rfl
theorem c361_944 : pm_code 361 944 = some (.iadd, 945) := pm_of cl361_12 29 (q := (944, .iadd, 945)) rfl
theorem c361_945 : pm_code 361 945 = some (.iaload, 946) := pm_of cl361_12 30 (q := (945, .iaload, 946)) rfl
theorem c361_946 : pm_code 361 946 = some (.aload_n 0, 947) := pm_of cl361_12 31 (q := (946, .aload_n 0, 947)) rfl
theorem c361_947 : pm_code 361 947 = some (.iload 4, 949) := pm_of cl361_12 32 (q := (947, .iload 4, 949)) rfl
theorem c361_949 : pm_code 361 949 = some (.bipush 6, 951) := pm_of cl361_12 33 (q := (949, .bipush 6, 951)) rfl
theorem c361_951 : pm_code 361 951 = some (.iadd, 952) := pm_of cl361_12 34 (q := (951, .iadd, 952)) rfl
theorem c361_952 : pm_code 361 952 = some (.iaload, 953) := pm_of cl361_12 35 (q := (952, .iaload, 953)) rfl
theorem c361_953 : pm_code 361 953 = some (.invokevirtual 168, 956) := pm_of cl361_12 36 (q := (953, .invokevirtual 168, 956)) rfl
theorem c361_956 : pm_code 361 956 = some (.istore 6, 958) := pm_of cl361_12 37 (q := (956, .istore 6, 958)) rfl
theorem c361_958 : pm_code 361 958 = some (.aload_n 2, 959) := pm_of cl361_12 38 (q := (958, .aload_n 2, 959)) rfl
theorem c361_959 : pm_code 361 959 = some (.invokevirtual 128, 962) := pm_of cl361_12 39 (q := (959, .invokevirtual 128, 962)) rfl
theorem cl361_13 : ([(962, .iload 5, 964), (964, .if_icmp .eq 5, 967), (967, .iconst 0, 968), (968, .ireturn, 969), (969, .iload 5, 971), (971, .ifCond .ne 15, 974), (974, .aload_n 3, 975), (975, .iconst 0, 976), (976, .laload, 977), (977, .iload 6, 979), (979, .i2l, 980), (980, .lcmp, 981), (981, .ifCond .eq 5, 984), (984, .iconst 0, 985), (985, .ireturn, 986), (986, .goto 1590, 989), (989, .aload_n 1, 990), (990, .invokevirtual 169, 993), (993, .aload_n 2, 994), (994, .invokevirtual 172, 997), (997, .if_icmp .eq 1579, 1000), (1000, .iconst 0, 1001), (1001, .ireturn, 1002), (1002, .aload_n 1, 1003), (1003, .aload_n 0, 1004), (1004, .iload 4, 1006), (1006, .iconst 1, 1007), (1007, .iadd, 1008), (1008, .iaload, 1009), (1009, .aload_n 3, 1010), (1010, .invokestatic 173, 1013), (1013, .istore 5, 1015), (1015, .aload_n 2, 1016), (1016, .aload_n 0, 1017), (1017, .iload 4, 1019), (1019, .iconst 1, 1020), (1020, .iadd, 1021), (1021, .iaload, 1022), (1022, .invokevirtual 175, 1025), (1025, .istore 6, 1027)] : List (Nat × Instr × Nat)).all (fun q => decide (pm_code 361 q.1 = some q.2)) = true := by decide +kernel
theorem c361_962 : pm_code 361 962 = some (.iload 5, 964) := pm_of cl361_13 0 (q := (962, .iload 5, 964)) rfl
theorem c361_964 : pm_code 361 964 = some (.if_icmp .eq 5, 967) := pm_of cl361_13 1 (q := (964, .if_icmp .eq 5, 967)) rfl
theorem c361_967 : pm_code 361 967 = some (.iconst 0, 968) := pm_of cl361_13 2 (q := (967, .iconst 0, 968)) rfl
theorem c361_968 : pm_code 361 968 = some (.ireturn, 969) := pm_of cl361_13 3 (q := (968, .ireturn, 969)) rfl
theorem c361_969 : pm_code 361 969 = some (.iload 5, 971) := pm_of cl361_13 4 (q := (969, .iload 5, 971)) rfl
theorem c361_971 : pm_code 361 971 = some (.ifCond .ne 15, 974) := pm_of cl361_13 5 (q := (971, .ifCond .ne 15, 974)) rfl
theorem c361_974 : pm_code 361 974 = some (.aload_n 3, 975) := pm_of cl361_13 6 (q := (974, .aload_n 3, 975)) rfl
theorem c361_975 : pm_code 361 975 = some (.iconst 0, 976) := pm_of cl361_13 7 (q := (975, .iconst 0, 976)) rfl
theorem c361_976 : pm_code 361 976 = some (.laload, 977) := pm_of cl361_13 8 (q := (976, .laload, 977)) rfl
theorem c361_977 : pm_code 361 977 = some (.iload 6, 979) := pm_of cl361_13 9 (q := (977, .iload 6, 979)) rfl
theorem c361_979 : pm_code 361 979 = some (.i2l, 980) := pm_of cl361_13 10 (q := (979, .i2l, 980)) rfl
theorem c361_980 : pm_code 361 980 = some (.lcmp, 981) := pm_of cl361_13 11 (q := (980, .lcmp, 981)) rfl
theorem c361_981 : pm_code 361 981 = some (.ifCond .eq 5, 984) := pm_of cl361_13 12 (q := (981, .ifCond .eq 5, 984)) rfl
theorem c361_984 : pm_code 361 984 = some (.iconst 0, 985) := pm_of cl361_13 13 (q := (984, .iconst 0, 985)) rfl
theorem c361_985 : pm_code 361 985 = some (.ireturn, 986) := pm_of cl361_13 14 (q := (985, .ireturn, 986)) rfl
theorem c361_986 : pm_code 361 986 = some (.goto 1590, 989) := pm_of cl361_13 15 (q := (986, .goto 1590, 989)) rfl
theorem c361_989 : pm_code 361 989 = some (.aload_n 1, 990) := pm_of cl361_13 16 (q := (989, .aload_n 1, 990)) rfl
theorem c361_990 : pm_code 361 990 = some (.invokevirtual 169, 993) := pm_of cl361_13 17 (q := (990, .invokevirtual 169, 993)) rfl
theorem c361_993 : pm_code 361 993 = some (.aload_n 2, 994) := pm_of cl361_13 18 (q := (993, .aload_n 2, 994)) rfl
theorem c361_994 : pm_code 361 994 = some (.invokevirtual 172, 997) := pm_of cl361_13 19 (q := (994, .invokevirtual 172, 997)) rfl
theorem c361_997 : pm_code 361 997 = some (.if_icmp .eq 1579, 1000) := pm_of cl361_13 20 (q := (997, .if_icmp .eq 1579, 1000)) rfl
theorem c361_1000 : pm_code 361 1000 = some (.iconst 0, 1001) := pm_of cl361_13 21 (q := (1000, .iconst 0, 1001)) rfl
theorem c361_1001 : pm_code 361 1001 = some (.ireturn, 1002) := pm_of cl361_13 22 (q := (1001, .ireturn, 1002)) rfl
theorem c361_1002 : pm_code 361 1002 = some (.aload_n 1, 1003) := pm_of cl361_13 23 (q := (1002, .aload_n 1, 1003)) rfl
theorem c361_1003 : pm_code 361 1003 = some (.aload_n 0, 1004) := pm_of cl361_13 24 (q := (1003, .aload_n 0, 1004)) rfl
theorem c361_1004 : pm_code 361 1004 = some (.iload 4, 1006) := pm_of cl361_13 25 (q := (1004, .iload 4, 1006)) rfl
theorem c361_1006 : pm_code 361 1006 = some (.iconst 1, 1007) := pm_of cl361_13 26 (q := (1006, .iconst 1, 1007)) rfl
theorem c361_1007 : pm_code 361 1007 = some (.iadd, 1008) := pm_of cl361_13 27 (q := (1007, .iadd, 1008)) rfl
theorem c361_1008 : pm_code 361 1008 = some (.iaload, 1009) := pm_of cl361_13 28 (q := (1008, .iaload, 1009)) rfl
theorem c361_1009 : pm_code 361 1009 = some (.aload_n 3, 1010) := pm_of cl361_13 29 (q := (1009, .aload_n 3, 1010)) rfl
theorem c361_1010 : pm_code 361 1010 = some (.invokestatic 173, 1013) := pm_of cl361_13 30 (q := (1010, .invokestatic 173, 1013)) rfl
theorem c361_1013 : pm_code 361 1013 = some (.istore 5, 1015) := pm_of cl361_13 31 (q := (1013, .istore 5, 1015)) rfl
theorem c361_1015 : pm_code 361 1015 = some (.aload_n 2, 1016) := pm_of cl361_13 32 (q := (1015, .aload_n 2, 1016)) rfl
theorem c361_1016 : pm_code 361 1016 = some (.aload_n 0, 1017) := pm_of cl361_13 33 (q := (1016, .aload_n 0, 1017)) rfl
theorem c361_1017 : pm_code 361 1017 = some (.iload 4, 1019) := pm_of cl361_13 34 (q := (1017, .iload 4, 1019)) rfl
theorem c361_1019 : pm_code 361 1019 = some (.iconst 1, 1020) := pm_of cl361_13 35 (q := (1019, .iconst 1, 1020)) rfl
theorem c361_1020 : pm_code 361 1020 = some (.iadd, 1021) := pm_of cl361_13 36 (q := (1020, .iadd, 1021)) rfl
theorem c361_1021 : pm_code 361 1021 = some (.iaload, 1022) := pm_of cl361_13 37 (q := (1021, .iaload, 1022)) rfl
theorem c361_1022 : pm_code 361 1022 = some (.invokevirtual 175, 1025) := pm_of cl361_13 38 (q := (1022, .invokevirtual 175, 1025)) rfl
theorem c361_1025 : pm_code 361 1025 = some (.istore 6, 1027) := pm_of cl361_13 39 (q := (1025, .istore 6, 1027)) rfl
theorem cl361_14 : ([(1027, .aload_n 2, 1028), (1028, .invokevirtual 128, 1031), (1031, .iload 5, 1033), (1033, .if_icmp .eq 5, 1036), (1036, .iconst 0, 1037), (1037, .ireturn, 1038), (1038, .iload 5, 1040), (1040, .ifCond .ne 15, 1043), (1043, .aload_n 3, 1044), (1044, .iconst 0, 1045), (1045, .laload, 1046), (1046, .iload 6, 1048), (1048, .i2l, 1049), (1049, .lcmp, 1050), (1050, .ifCond .eq 5, 1053), (1053, .iconst 0, 1054), (1054, .ireturn, 1055), (1055, .goto 1521, 1058), (1058, .aload_n 1, 1059), (1059, .aload_n 0, 1060), (1060, .iload 4, 1062), (1062, .iconst 1, 1063), (1063, .iadd, 1064), (1064, .iaload, 1065), (1065, .aload_n 3, 1066), (1066, .invokestatic 176, 1069), (1069, .istore 5, 1071), (1071, .aload_n 2, 1072), (1072, .aload_n 0, 1073), (1073, .iload 4, 1075), (1075, .iconst 1, 1076), (1076, .iadd, 1077), (1077, .iaload, 1078), (1078, .invokevirtual 178, 1081), (1081, .istore 6, 1083), (1083, .aload_n 2, 1084), (1084, .invokevirtual 128, 1087), (1087, .iload 5, 1089), (1089, .if_icmp .eq 5, 1092), (1092, .iconst 0, 1093)] : List (Nat × Instr × Nat)).all (fun q => decide (pm_code 361 q.1 = some q.2)) = true := by decide +kernel
theorem c361_1027 : pm_code 361 1027 = some (.aload_n 2, 1028) := pm_of cl361_14 0 (q := (1027, .aload_n 2, 1028)) rfl
theorem c361_1028 : pm_code 361 1028 = some (.invokevirtual 128, 1031) := pm_of cl361_14 1 (q := (1028, .invokevirtual 128, 1031)) rfl
theorem c361_1031 : pm_code 361 1031 = some (.iload 5, 1033) := pm_of cl361_14 2 (q := (1031, .iload 5, 1033)) rfl
theorem c361_1033 : pm_code 361 1033 = some (.if_icmp .eq 5, 1036) := pm_of cl361_14 3 (q := (1033, .if_icmp .eq 5, 1036)) rfl
theorem c361_1036 : pm_code 361 1036 = some (.iconst 0, 1037) := pm_of cl361_14 4 (q := (1036, .iconst 0, 1037)) rfl
theorem c361_1037 : pm_code 361 1037 = some (.ireturn, 1038) := pm_of cl361_14 5 (q := (1037, .ireturn, 1038)) rfl
theorem c361_1038 : pm_code 361 1038 = some (.iload 5, 1040) := pm_of cl361_14 6 (q := (1038, .iload 5, 1040)) rfl
theorem c361_1040 : pm_code 361 1040 = some (.ifCond .ne 15, 1043) := pm_of cl361_14 7 (q := (1040, .ifCond .ne 15, 1043)) rfl
theorem c361_1043 : pm_code 361 1043 = some (.aload_n 3, 1044) := pm_of cl361_14 8 (q := (1043, .aload_n 3, 1044)) rfl
theorem c361_1044 : pm_code 361 1044 = some (.iconst 0, 1045) := pm_of cl361_14 9 (q := (1044, .iconst 0, 1045)) rfl
theorem c361_1045 : pm_code 361 1045 = some (.laload, 1046) := pm_of cl361_14 10 (q := (1045, .laload, 1046)) rfl
theorem c361_1046 : pm_code 361 1046 = some (.iload 6, 1048) := pm_of cl361_14 11 (q := (1046, .iload 6, 1048)) rfl
theorem c361_1048 : pm_code 361 1048 = some (.i2l, 1049) := pm_of cl361_14 12 (q := (1048, .i2l, 1049)) rfl
theorem c361_1049 : pm_code 361 1049 = some (.lcmp, 1050) := pm_of cl361_14 13 (q := (1049, .lcmp, 1050)) rfl
theorem c361_1050 : pm_code 361 1050 = some (.ifCond .eq 5, 1053) := pm_of cl361_14 14 (q := (1050, .ifCond .eq 5, 1053)) rfl
theorem c361_1053 : pm_code 361 1053 = some (.iconst 0, 1054) := pm_of cl361_14 15 (q := (1053, .iconst 0, 1054)) rfl
theorem c361_1054 : pm_code 361 1054 = some (.ireturn, 1055) := pm_of cl361_14 16 (q := (1054, .ireturn, 1055)) rfl
theorem c361_1055 : pm_code 361 1055 = some (.goto 1521, 1058) := pm_of cl361_14 17 (q := (1055, .goto 1521, 1058)) rfl
theorem c361_1058 : pm_code 361 1058 = some (.aload_n 1, 1059) := pm_of cl361_14 18 (q := (1058, .aload_n 1, 1059)) rfl
theorem c361_1059 : pm_code 361 1059 = some (.aload_n 0, 1060) := pm_of cl361_14 19 (q := (1059, .aload_n 0, 1060)) rfl
theorem c361_1060 : pm_code 361 1060 = some (.iload 4, 1062) := pm_of cl361_14 20 (q := (1060, .iload 4, 1062)) rfl
theorem c361_1062 : pm_code 361 1062 = some (.iconst 1, 1063) := pm_of cl361_14 21 (q := (1062, .iconst 1, 1063)) rfl
theorem c361_1063 : pm_code 361 1063 = some (.iadd, 1064) := pm_of cl361_14 22 (q := (1063, .iadd, 1064)) rfl
theorem c361_1064 : pm_code 361 1064 = some (.iaload, 1065) := pm_of cl361_14 23 (q := (1064, .iaload, 1065)) rfl
theorem c361_1065 : pm_code 361 1065 = some (.aload_n 3, 1066) := pm_of cl361_14 24 (q := (1065, .aload_n 3, 1066)) rfl
theorem c361_1066 : pm_code 361 1066 = some (.invokestatic 176, 1069) := pm_of cl361_14 25 (q := (1066, .invokestatic 176, 1069)) rfl
theorem c361_1069 : pm_code 361 1069 = some (.istore 5, 1071) := pm_of cl361_14 26 (q := (1069, .istore 5, 1071)) rfl
theorem c361_1071 : pm_code 361 1071 = some (.aload_n 2, 1072) := pm_of cl361_14 27 (q := (1071, .aload_n 2, 1072)) rfl
theorem c361_1072 : pm_code 361 1072 = some (.aload_n 0, 1073) := pm_of cl361_14 28 (q := (1072, .aload_n 0, 1073)) rfl
theorem c361_1073 : pm_code 361 1073 = some (.iload 4, 1075) := pm_of cl361_14 29 (q := (1073, .iload 4, 1075)) rfl
theorem c361_1075 : pm_code 361 1075 = some (.iconst 1, 1076) := pm_of cl361_14 30 (q := (1075, .iconst 1, 1076)) rfl
theorem c361_1076 : pm_code 361 1076 = some (.iadd, 1077) := pm_of cl361_14 31 (q := (1076, .iadd, 1077)) rfl
theorem c361_1077 : pm_code 361 1077 = some (.iaload, 1078) := pm_of cl361_14 32 (q := (1077, .iaload, 1078)) rfl
theorem c361_1078 : pm_code 361 1078 = some (.invokevirtual 178, 1081) := pm_of cl361_14 33 (q := (1078, .invokevirtual 178, 1081)) rfl
theorem c361_1081 : pm_code 361 1081 = some (.istore 6, 1083) := pm_of cl361_14 34 (q := (1081, .istore 6, 1083)) rfl
theorem c361_1083 : pm_code 361 1083 = some (.aload_n 2, 1084) := pm_of cl361_14 35 (q := (1083, .aload_n 2, 1084)) rfl
theorem c361_1084 : pm_code 361 1084 = some (.invokevirtual 128, 1087) := pm_of cl361_14 36 (q := (1084, .invokevirtual 128, 1087)) rfl
theorem c361_1087 : pm_code 361 1087 = some (.iload 5, 1089) := pm_of cl361_14 37 (q := (1087, .iload 5, 1089)) rfl
theorem c361_1089 : pm_code 361 1089 = some (.if_icmp .eq 5, 1092) := pm_of cl361_14 38 (q := (1089, .if_icmp .eq 5, 1092)) rfl
theorem c361_1092 : pm_code 361 1092 = some (.iconst 0, 1093) := pm_of cl361_14 39 (q := (1092, .iconst 0, 1093)) rfl
