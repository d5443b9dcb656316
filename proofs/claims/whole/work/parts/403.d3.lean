theorem dlw_764 : decode code 764 = .ok (.aload_n 0, 1) := by decide +kernel
theorem dlw_765 : decode code 765 = .ok (.iload_n 3, 1) := by decide +kernel
theorem dlw_766 : decode code 766 = .ok (.iconst 1, 1) := by decide +kernel
theorem dlw_767 : decode code 767 = .ok (.iadd, 1) := by decide +kernel
theorem dlw_768 : decode code 768 = .ok (.iaload, 1) := by decide +kernel
theorem dlw_769 : decode code 769 = .ok (.aload_n 0, 1) := by decide +kernel
theorem dlw_770 : decode code 770 = .ok (.iload_n 3, 1) := by decide +kernel
theorem dlw_771 : decode code 771 = .ok (.iconst 2, 1) := by decide +kernel
theorem dlw_772 : decode code 772 = .ok (.iadd, 1) := by decide +kernel
theorem dlw_773 : decode code 773 = .ok (.iaload, 1) := by decide +kernel
theorem dlw_774 : decode code 774 = .ok (.aload_n 0, 1) := by decide +kernel
theorem dlw_775 : decode code 775 = .ok (.iload_n 3, 1) := by decide +kernel
theorem dlw_776 : decode code 776 = .ok (.iconst 3, 1) := by decide +kernel
theorem dlw_777 : decode code 777 = .ok (.iadd, 1) := by decide +kernel
theorem dlw_778 : decode code 778 = .ok (.iaload, 1) := by decide +kernel
theorem dlw_779 : decode code 779 = .ok (.invokevirtual 103, 3) := by decide +kernel
theorem dlw_782 : decode code 782 = .ok (.aload_n 2, 1) := by decide +kernel
theorem dlw_783 : decode code 783 = .ok (.aload_n 0, 1) := by decide +kernel
theorem dlw_784 : decode code 784 = .ok (.iload_n 3, 1) := by decide +kernel
theorem dlw_785 : decode code 785 = .ok (.iconst 1, 1) := by decide +kernel
theorem dlw_786 : decode code 786 = .ok (.iadd, 1) := by decide +kernel
theorem dlw_787 : decode code 787 = .ok (.iaload, 1) := by decide +kernel
theorem dlw_788 : decode code 788 = .ok (.aload_n 0, 1) := by decide +kernel
theorem dlw_789 : decode code 789 = .ok (.iload_n 3, 1) := by decide +kernel
theorem dlw_790 : decode code 790 = .ok (.iconst 2, 1) := by decide +kernel
theorem dlw_791 : decode code 791 = .ok (.iadd, 1) := by decide +kernel
theorem dlw_792 : decode code 792 = .ok (.iaload, 1) := by decide +kernel
theorem dlw_793 : decode code 793 = .ok (.aload_n 0, 1) := by decide +kernel
theorem dlw_794 : decode code 794 = .ok (.iload_n 3, 1) := by decide +kernel
theorem dlw_795 : decode code 795 = .ok (.iconst 3, 1) := by decide +kernel
theorem dlw_796 : decode code 796 = .ok (.iadd, 1) := by decide +kernel
theorem dlw_797 : decode code 797 = .ok (.iaload, 1) := by decide +kernel
theorem dlw_798 : decode code 798 = .ok (.invokevirtual 106, 3) := by decide +kernel
theorem dlw_801 : decode code 801 = .ok (.if_icmp .eq 484, 3) := by decide +kernel
theorem dlw_804 : decode code 804 = .ok (.iconst 0, 1) := by decide +kernel
theorem dlw_805 : decode code 805 = .ok (.ireturn, 1) := by decide +kernel
theorem dlw_806 : decode code 806 = .ok (.aload_n 1, 1) := by decide +kernel
theorem dlw_807 : decode code 807 = .ok (.aload_n 0, 1) := by decide +kernel
theorem dlw_808 : decode code 808 = .ok (.iload_n 3, 1) := by decide +kernel
theorem dlw_809 : decode code 809 = .ok (.iconst 1, 1) := by decide +kernel
theorem dlw_810 : decode code 810 = .ok (.iadd, 1) := by decide +kernel
theorem dlw_811 : decode code 811 = .ok (.iaload, 1) := by decide +kernel
theorem dlw_812 : decode code 812 = .ok (.aload_n 0, 1) := by decide +kernel
theorem dlw_813 : decode code 813 = .ok (.iload_n 3, 1) := by decide +kernel
theorem dlw_814 : decode code 814 = .ok (.iconst 2, 1) := by decide +kernel
theorem dlw_815 : decode code 815 = .ok (.iadd, 1) := by decide +kernel
theorem dlw_816 : decode code 816 = .ok (.iaload, 1) := by decide +kernel
theorem dlw_817 : decode code 817 = .ok (.invokevirtual 107, 3) := by decide +kernel
theorem dlw_820 : decode code 820 = .ok (.aload_n 2, 1) := by decide +kernel
theorem dlw_821 : decode code 821 = .ok (.aload_n 0, 1) := by decide +kernel
theorem dlw_822 : decode code 822 = .ok (.iload_n 3, 1) := by decide +kernel
theorem dlw_823 : decode code 823 = .ok (.iconst 1, 1) := by decide +kernel
theorem dlw_824 : decode code 824 = .ok (.iadd, 1) := by decide +kernel
theorem dlw_825 : decode code 825 = .ok (.iaload, 1) := by decide +kernel
theorem dlw_826 : decode code 826 = .ok (.aload_n 0, 1) := by decide +kernel
theorem dlw_827 : decode code 827 = .ok (.iload_n 3, 1) := by decide +kernel
theorem dlw_828 : decode code 828 = .ok (.iconst 2, 1) := by decide +kernel
theorem dlw_829 : decode code 829 = .ok (.iadd, 1) := by decide +kernel
theorem dlw_830 : decode code 830 = .ok (.iaload, 1) := by decide +kernel
theorem dlw_831 : decode code 831 = .ok (.invokevirtual 110, 3) := by decide +kernel
theorem dlw_834 : decode code 834 = .ok (.if_icmp .eq 451, 3) := by decide +kernel
theorem dlw_837 : decode code 837 = .ok (.iconst 0, 1) := by decide +kernel
theorem dlw_838 : decode code 838 = .ok (.ireturn, 1) := by decide +kernel
theorem dlw_839 : decode code 839 = .ok (.aload_n 1, 1) := by decide +kernel
theorem dlw_840 : decode code 840 = .ok (.aload_n 0, 1) := by decide +kernel
theorem dlw_841 : decode code 841 = .ok (.iload_n 3, 1) := by decide +kernel
theorem dlw_842 : decode code 842 = .ok (.iconst 1, 1) := by decide +kernel
theorem dlw_843 : decode code 843 = .ok (.iadd, 1) := by decide +kernel
theorem dlw_844 : decode code 844 = .ok (.iaload, 1) := by decide +kernel
theorem dlw_845 : decode code 845 = .ok (.invokevirtual 111, 3) := by decide +kernel
theorem dlw_848 : decode code 848 = .ok (.aload_n 2, 1) := by decide +kernel
theorem dlw_849 : decode code 849 = .ok (.aload_n 0, 1) := by decide +kernel
theorem dlw_850 : decode code 850 = .ok (.iload_n 3, 1) := by decide +kernel
theorem dlw_851 : decode code 851 = .ok (.iconst 1, 1) := by decide +kernel
theorem dlw_852 : decode code 852 = .ok (.iadd, 1) := by decide +kernel
theorem dlw_853 : decode code 853 = .ok (.iaload, 1) := by decide +kernel
theorem dlw_854 : decode code 854 = .ok (.invokevirtual 114, 3) := by decide +kernel
theorem dlw_857 : decode code 857 = .ok (.if_icmp .eq 428, 3) := by decide +kernel
theorem dlw_860 : decode code 860 = .ok (.iconst 0, 1) := by decide +kernel
theorem dlw_861 : decode code 861 = .ok (.ireturn, 1) := by decide +kernel
theorem dlw_862 : decode code 862 = .ok (.aload_n 1, 1) := by decide +kernel
theorem dlw_863 : decode code 863 = .ok (.aload_n 0, 1) := by decide +kernel
theorem dlw_864 : decode code 864 = .ok (.iload_n 3, 1) := by decide +kernel
theorem dlw_865 : decode code 865 = .ok (.iconst 1, 1) := by decide +kernel
theorem dlw_866 : decode code 866 = .ok (.iadd, 1) := by decide +kernel
theorem dlw_867 : decode code 867 = .ok (.iaload, 1) := by decide +kernel
theorem dlw_868 : decode code 868 = .ok (.invokevirtual 115, 3) := by decide +kernel
theorem dlw_871 : decode code 871 = .ok (.aload_n 2, 1) := by decide +kernel
theorem dlw_872 : decode code 872 = .ok (.aload_n 0, 1) := by decide +kernel
theorem dlw_873 : decode code 873 = .ok (.iload_n 3, 1) := by decide +kernel
theorem dlw_874 : decode code 874 = .ok (.iconst 1, 1) := by decide +kernel
theorem dlw_875 : decode code 875 = .ok (.iadd, 1) := by decide +kernel
theorem dlw_876 : decode code 876 = .ok (.iaload, 1) := by decide +kernel
theorem dlw_877 : decode code 877 = .ok (.invokevirtual 118, 3) := by decide +kernel
theorem dlw_880 : decode code 880 = .ok (.if_icmp .eq 405, 3) := by decide +kernel
theorem dlw_883 : decode code 883 = .ok (.iconst 0, 1) := by decide +kernel
theorem dlw_884 : decode code 884 = .ok (.ireturn, 1) := by decide +kernel
theorem dlw_885 : decode code 885 = .ok (.aload_n 1, 1) := by decide +kernel
theorem dlw_886 : decode code 886 = .ok (.aload_n 0, 1) := by decide +kernel
theorem dlw_887 : decode code 887 = .ok (.iload_n 3, 1) := by decide +kernel
theorem dlw_888 : decode code 888 = .ok (.iconst 1, 1) := by decide +kernel
theorem dlw_889 : decode code 889 = .ok (.iadd, 1) := by decide +kernel
theorem dlw_890 : decode code 890 = .ok (.iaload, 1) := by decide +kernel
theorem dlw_891 : decode code 891 = .ok (.invokevirtual 119, 3) := by decide +kernel
theorem dlw_894 : decode code 894 = .ok (.aload_n 2, 1) := by decide +kernel
theorem dlw_895 : decode code 895 = .ok (.aload_n 0, 1) := by decide +kernel
theorem dlw_896 : decode code 896 = .ok (.iload_n 3, 1) := by decide +kernel
theorem dlw_897 : decode code 897 = .ok (.iconst 1, 1) := by decide +kernel
theorem dlw_898 : decode code 898 = .ok (.iadd, 1) := by decide +kernel
theorem dlw_899 : decode code 899 = .ok (.iaload, 1) := by decide +kernel
theorem dlw_900 : decode code 900 = .ok (.invokevirtual 122, 3) := by decide +kernel
theorem dlw_903 : decode code 903 = .ok (.if_icmp .eq 382, 3) := by decide +kernel
theorem dlw_906 : decode code 906 = .ok (.iconst 0, 1) := by decide +kernel
theorem dlw_907 : decode code 907 = .ok (.ireturn, 1) := by decide +kernel
theorem dlw_908 : decode code 908 = .ok (.aload_n 1, 1) := by decide +kernel
theorem dlw_909 : decode code 909 = .ok (.aload_n 0, 1) := by decide +kernel
theorem dlw_910 : decode code 910 = .ok (.iload_n 3, 1) := by decide +kernel
theorem dlw_911 : decode code 911 = .ok (.iconst 1, 1) := by decide +kernel
theorem dlw_912 : decode code 912 = .ok (.iadd, 1) := by decide +kernel
theorem dlw_913 : decode code 913 = .ok (.iaload, 1) := by decide +kernel
theorem dlw_914 : decode code 914 = .ok (.aload_n 0, 1) := by decide +kernel
theorem dlw_915 : decode code 915 = .ok (.iload_n 3, 1) := by decide +kernel
theorem dlw_916 : decode code 916 = .ok (.iconst 2, 1) := by decide +kernel
theorem dlw_917 : decode code 917 = .ok (.iadd, 1) := by decide +kernel
theorem dlw_918 : decode code 918 = .ok (.iaload, 1) := by decide +kernel
theorem dlw_919 : decode code 919 = .ok (.invokevirtual 123, 3) := by decide +kernel
theorem dlw_922 : decode code 922 = .ok (.aload_n 2, 1) := by decide +kernel
theorem dlw_923 : decode code 923 = .ok (.aload_n 0, 1) := by decide +kernel
theorem dlw_924 : decode code 924 = .ok (.iload_n 3, 1) := by decide +kernel
theorem dlw_925 : decode code 925 = .ok (.iconst 1, 1) := by decide +kernel
theorem dlw_926 : decode code 926 = .ok (.iadd, 1) := by decide +kernel
theorem dlw_927 : decode code 927 = .ok (.iaload, 1) := by decide +kernel
theorem dlw_928 : decode code 928 = .ok (.aload_n 0, 1) := by decide +kernel
theorem dlw_929 : decode code 929 = .ok (.iload_n 3, 1) := by decide +kernel
theorem dlw_930 : decode code 930 = .ok (.iconst 2, 1) := by decide +kernel
theorem dlw_931 : decode code 931 = .ok (.iadd, 1) := by decide +kernel
theorem dlw_932 : decode code 932 = .ok (.iaload, 1) := by decide +kernel
theorem dlw_933 : decode code 933 = .ok (.invokevirtual 126, 3) := by decide +kernel
theorem dlw_936 : decode code 936 = .ok (.if_icmp .eq 349, 3) := by decide +kernel
theorem dlw_939 : decode code 939 = .ok (.iconst 0, 1) := by decide +kernel
theorem dlw_940 : decode code 940 = .ok (.ireturn, 1) := by decide +kernel
theorem dlw_941 : decode code 941 = .ok (.aload_n 1, 1) := by decide +kernel
theorem dlw_942 : decode code 942 = .ok (.aload_n 0, 1) := by decide +kernel
theorem dlw_943 : decode code 943 = .ok (.iload_n 3, 1) := by decide +kernel
theorem dlw_944 : decode code 944 = .ok (.iconst 1, 1) := by decide +kernel
theorem dlw_945 : decode code 945 = .ok (.iadd, 1) := by decide +kernel
theorem dlw_946 : decode code 946 = .ok (.iaload, 1) := by decide +kernel
theorem dlw_947 : decode code 947 = .ok (.aload_n 0, 1) := by decide +kernel
theorem dlw_948 : decode code 948 = .ok (.iload_n 3, 1) := by decide +kernel
theorem dlw_949 : decode code 949 = .ok (.iconst 2, 1) := by decide +kernel
theorem dlw_950 : decode code 950 = .ok (.iadd, 1) := by decide +kernel
theorem dlw_951 : decode code 951 = .ok (.iaload, 1) := by decide +kernel
theorem dlw_952 : decode code 952 = .ok (.aload_n 0, 1) := by decide +kernel
theorem dlw_953 : decode code 953 = .ok (.iload_n 3, 1) := by decide +kernel
theorem dlw_954 : decode code 954 = .ok (.iconst 3, 1) := by decide +kernel
theorem dlw_955 : decode code 955 = .ok (.iadd, 1) := by decide +kernel
theorem dlw_956 : decode code 956 = .ok (.iaload, 1) := by decide +kernel
theorem dlw_957 : decode code 957 = .ok (.aload_n 0, 1) := by decide +kernel
theorem dlw_958 : decode code 958 = .ok (.iload_n 3, 1) := by decide +kernel
theorem dlw_959 : decode code 959 = .ok (.iconst 4, 1) := by decide +kernel
theorem dlw_960 : decode code 960 = .ok (.iadd, 1) := by decide +kernel
theorem dlw_961 : decode code 961 = .ok (.iaload, 1) := by decide +kernel
theorem dlw_962 : decode code 962 = .ok (.invokevirtual 127, 3) := by decide +kernel
theorem dlw_965 : decode code 965 = .ok (.aload_n 2, 1) := by decide +kernel
theorem dlw_966 : decode code 966 = .ok (.aload_n 0, 1) := by decide +kernel
theorem dlw_967 : decode code 967 = .ok (.iload_n 3, 1) := by decide +kernel
theorem dlw_968 : decode code 968 = .ok (.iconst 1, 1) := by decide +kernel
theorem dlw_969 : decode code 969 = .ok (.iadd, 1) := by decide +kernel
theorem dlw_970 : decode code 970 = .ok (.iaload, 1) := by decide +kernel
theorem dlw_971 : decode code 971 = .ok (.aload_n 0, 1) := by decide +kernel
theorem dlw_972 : decode code 972 = .ok (.iload_n 3, 1) := by decide +kernel
theorem dlw_973 : decode code 973 = .ok (.iconst 2, 1) := by decide +kernel
theorem dlw_974 : decode code 974 = .ok (.iadd, 1) := by decide +kernel
theorem dlw_975 : decode code 975 = .ok (.iaload, 1) := by decide +kernel
theorem dlw_976 : decode code 976 = .ok (.aload_n 0, 1) := by decide +kernel
theorem dlw_977 : decode code 977 = .ok (.iload_n 3, 1) := by decide +kernel
theorem dlw_978 : decode code 978 = .ok (.iconst 3, 1) := by decide +kernel
theorem dlw_979 : decode code 979 = .ok (.iadd, 1) := by decide +kernel
theorem dlw_980 : decode code 980 = .ok (.iaload, 1) := by decide +kernel
theorem dlw_981 : decode code 981 = .ok (.aload_n 0, 1) := by decide +kernel
theorem dlw_982 : decode code 982 = .ok (.iload_n 3, 1) := by decide +kernel
theorem dlw_983 : decode code 983 = .ok (.iconst 4, 1) := by decide +kernel
theorem dlw_984 : decode code 984 = .ok (.iadd, 1) := by decide +kernel
theorem dlw_985 : decode code 985 = .ok (.iaload, 1) := by decide +kernel
theorem dlw_986 : decode code 986 = .ok (.invokevirtual 130, 3) := by decide +kernel
theorem dlw_989 : decode code 989 = .ok (.if_icmp .eq 296, 3) := by decide +kernel
theorem dlw_992 : decode code 992 = .ok (.iconst 0, 1) := by decide +kernel
theorem dlw_993 : decode code 993 = .ok (.ireturn, 1) := by decide +kernel
theorem dlw_994 : decode code 994 = .ok (.aload_n 1, 1) := by decide +kernel
theorem dlw_995 : decode code 995 = .ok (.aload_n 0, 1) := by decide +kernel
theorem dlw_996 : decode code 996 = .ok (.iload_n 3, 1) := by decide +kernel
theorem dlw_997 : decode code 997 = .ok (.iconst 1, 1) := by decide +kernel
theorem dlw_998 : decode code 998 = .ok (.iadd, 1) := by decide +kernel
theorem dlw_999 : decode code 999 = .ok (.iaload, 1) := by decide +kernel
theorem dlw_1000 : decode code 1000 = .ok (.aload_n 0, 1) := by decide +kernel
theorem dlw_1001 : decode code 1001 = .ok (.iload_n 3, 1) := by decide +kernel
theorem dlw_1002 : decode code 1002 = .ok (.iconst 2, 1) := by decide +kernel
theorem dlw_1003 : decode code 1003 = .ok (.iadd, 1) := by decide +kernel
theorem dlw_1004 : decode code 1004 = .ok (.iaload, 1) := by decide +kernel
theorem dlw_1005 : decode code 1005 = .ok (.invokevirtual 131, 3) := by decide +kernel
theorem dlw_1008 : decode code 1008 = .ok (.aload_n 2, 1) := by decide +kernel
theorem dlw_1009 : decode code 1009 = .ok (.aload_n 0, 1) := by decide +kernel
theorem dlw_1010 : decode code 1010 = .ok (.iload_n 3, 1) := by decide +kernel
theorem dlw_1011 : decode code 1011 = .ok (.iconst 1, 1) := by decide +kernel
theorem dlw_1012 : decode code 1012 = .ok (.iadd, 1) := by decide +kernel
theorem dlw_1013 : decode code 1013 = .ok (.iaload, 1) := by decide +kernel
theorem dlw_1014 : decode code 1014 = .ok (.aload_n 0, 1) := by decide +kernel
theorem dlw_1015 : decode code 1015 = .ok (.iload_n 3, 1) := by decide +kernel
theorem dlw_1016 : decode code 1016 = .ok (.iconst 2, 1) := by decide +kernel
theorem dlw_1017 : decode code 1017 = .ok (.iadd, 1) := by decide +kernel
theorem dlw_1018 : decode code 1018 = .ok (.iaload, 1) := by decide +kernel
theorem dlw_1019 : decode code 1019 = .ok (.invokevirtual 134, 3) := by decide +kernel
theorem dlw_1022 : decode code 1022 = .ok (.if_icmp .eq 263, 3) := by decide +kernel
theorem dlw_1025 : decode code 1025 = .ok (.iconst 0, 1) := by decide +kernel
theorem dlw_1026 : decode code 1026 = .ok (.ireturn, 1) := by decide +kernel
theorem dlw_1027 : decode code 1027 = .ok (.aload_n 1, 1) := by decide +kernel
theorem dlw_1028 : decode code 1028 = .ok (.aload_n 0, 1) := by decide +kernel
theorem dlw_1029 : decode code 1029 = .ok (.iload_n 3, 1) := by decide +kernel
theorem dlw_1030 : decode code 1030 = .ok (.iconst 1, 1) := by decide +kernel
theorem dlw_1031 : decode code 1031 = .ok (.iadd, 1) := by decide +kernel
theorem dlw_1032 : decode code 1032 = .ok (.iaload, 1) := by decide +kernel
theorem dlw_1033 : decode code 1033 = .ok (.aload_n 0, 1) := by decide +kernel
theorem dlw_1034 : decode code 1034 = .ok (.iload_n 3, 1) := by decide +kernel
theorem dlw_1035 : decode code 1035 = .ok (.iconst 2, 1) := by decide +kernel
theorem dlw_1036 : decode code 1036 = .ok (.iadd, 1) := by decide +kernel
theorem dlw_1037 : decode code 1037 = .ok (.iaload, 1) := by decide +kernel
theorem dlw_1038 : decode code 1038 = .ok (.aload_n 0, 1) := by decide +kernel
theorem dlw_1039 : decode code 1039 = .ok (.iload_n 3, 1) := by decide +kernel
theorem dlw_1040 : decode code 1040 = .ok (.iconst 3, 1) := by decide +kernel
theorem dlw_1041 : decode code 1041 = .ok (.iadd, 1) := by decide +kernel
