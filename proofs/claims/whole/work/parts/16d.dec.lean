theorem dL_762 : decode code 762 = .ok (.iload_n 3, 1) := by decide +kernel
theorem dL_763 : decode code 763 = .ok (.iconst 2, 1) := by decide +kernel
theorem dL_764 : decode code 764 = .ok (.iadd, 1) := by decide +kernel
theorem dL_765 : decode code 765 = .ok (.iaload, 1) := by decide +kernel
theorem dL_766 : decode code 766 = .ok (.invokevirtual 92, 3) := by decide +kernel
theorem dL_769 : decode code 769 = .ok (.if_icmp .eq 591, 3) := by decide +kernel
theorem dL_772 : decode code 772 = .ok (.iconst 0, 1) := by decide +kernel
theorem dL_773 : decode code 773 = .ok (.ireturn, 1) := by decide +kernel
theorem dL_774 : decode code 774 = .ok (.aload_n 1, 1) := by decide +kernel
theorem dL_775 : decode code 775 = .ok (.aload_n 0, 1) := by decide +kernel
theorem dL_776 : decode code 776 = .ok (.iload_n 3, 1) := by decide +kernel
theorem dL_777 : decode code 777 = .ok (.iconst 1, 1) := by decide +kernel
theorem dL_778 : decode code 778 = .ok (.iadd, 1) := by decide +kernel
theorem dL_779 : decode code 779 = .ok (.iaload, 1) := by decide +kernel
theorem dL_780 : decode code 780 = .ok (.aload_n 0, 1) := by decide +kernel
theorem dL_781 : decode code 781 = .ok (.iload_n 3, 1) := by decide +kernel
theorem dL_782 : decode code 782 = .ok (.iconst 2, 1) := by decide +kernel
theorem dL_783 : decode code 783 = .ok (.iadd, 1) := by decide +kernel
theorem dL_784 : decode code 784 = .ok (.iaload, 1) := by decide +kernel
theorem dL_785 : decode code 785 = .ok (.invokevirtual 93, 3) := by decide +kernel
theorem dL_788 : decode code 788 = .ok (.aload_n 2, 1) := by decide +kernel
theorem dL_789 : decode code 789 = .ok (.aload_n 0, 1) := by decide +kernel
theorem dL_790 : decode code 790 = .ok (.iload_n 3, 1) := by decide +kernel
theorem dL_791 : decode code 791 = .ok (.iconst 1, 1) := by decide +kernel
theorem dL_792 : decode code 792 = .ok (.iadd, 1) := by decide +kernel
theorem dL_793 : decode code 793 = .ok (.iaload, 1) := by decide +kernel
theorem dL_794 : decode code 794 = .ok (.aload_n 0, 1) := by decide +kernel
theorem dL_795 : decode code 795 = .ok (.iload_n 3, 1) := by decide +kernel
theorem dL_796 : decode code 796 = .ok (.iconst 2, 1) := by decide +kernel
theorem dL_797 : decode code 797 = .ok (.iadd, 1) := by decide +kernel
theorem dL_798 : decode code 798 = .ok (.iaload, 1) := by decide +kernel
theorem dL_799 : decode code 799 = .ok (.invokevirtual 96, 3) := by decide +kernel
theorem dL_802 : decode code 802 = .ok (.if_icmp .eq 558, 3) := by decide +kernel
theorem dL_805 : decode code 805 = .ok (.iconst 0, 1) := by decide +kernel
theorem dL_806 : decode code 806 = .ok (.ireturn, 1) := by decide +kernel
theorem dL_807 : decode code 807 = .ok (.aload_n 1, 1) := by decide +kernel
theorem dL_808 : decode code 808 = .ok (.aload_n 0, 1) := by decide +kernel
theorem dL_809 : decode code 809 = .ok (.iload_n 3, 1) := by decide +kernel
theorem dL_810 : decode code 810 = .ok (.iconst 1, 1) := by decide +kernel
theorem dL_811 : decode code 811 = .ok (.iadd, 1) := by decide +kernel
theorem dL_812 : decode code 812 = .ok (.iaload, 1) := by decide +kernel
theorem dL_813 : decode code 813 = .ok (.aload_n 0, 1) := by decide +kernel
theorem dL_814 : decode code 814 = .ok (.iload_n 3, 1) := by decide +kernel
theorem dL_815 : decode code 815 = .ok (.iconst 2, 1) := by decide +kernel
theorem dL_816 : decode code 816 = .ok (.iadd, 1) := by decide +kernel
theorem dL_817 : decode code 817 = .ok (.iaload, 1) := by decide +kernel
theorem dL_818 : decode code 818 = .ok (.invokevirtual 97, 3) := by decide +kernel
theorem dL_821 : decode code 821 = .ok (.aload_n 2, 1) := by decide +kernel
theorem dL_822 : decode code 822 = .ok (.aload_n 0, 1) := by decide +kernel
theorem dL_823 : decode code 823 = .ok (.iload_n 3, 1) := by decide +kernel
theorem dL_824 : decode code 824 = .ok (.iconst 1, 1) := by decide +kernel
theorem dL_825 : decode code 825 = .ok (.iadd, 1) := by decide +kernel
theorem dL_826 : decode code 826 = .ok (.iaload, 1) := by decide +kernel
theorem dL_827 : decode code 827 = .ok (.aload_n 0, 1) := by decide +kernel
theorem dL_828 : decode code 828 = .ok (.iload_n 3, 1) := by decide +kernel
theorem dL_829 : decode code 829 = .ok (.iconst 2, 1) := by decide +kernel
theorem dL_830 : decode code 830 = .ok (.iadd, 1) := by decide +kernel
theorem dL_831 : decode code 831 = .ok (.iaload, 1) := by decide +kernel
theorem dL_832 : decode code 832 = .ok (.invokevirtual 100, 3) := by decide +kernel
theorem dL_835 : decode code 835 = .ok (.if_icmp .eq 525, 3) := by decide +kernel
theorem dL_838 : decode code 838 = .ok (.iconst 0, 1) := by decide +kernel
theorem dL_839 : decode code 839 = .ok (.ireturn, 1) := by decide +kernel
theorem dL_840 : decode code 840 = .ok (.aload_n 1, 1) := by decide +kernel
theorem dL_841 : decode code 841 = .ok (.aload_n 0, 1) := by decide +kernel
theorem dL_842 : decode code 842 = .ok (.iload_n 3, 1) := by decide +kernel
theorem dL_843 : decode code 843 = .ok (.iconst 1, 1) := by decide +kernel
theorem dL_844 : decode code 844 = .ok (.iadd, 1) := by decide +kernel
theorem dL_845 : decode code 845 = .ok (.iaload, 1) := by decide +kernel
theorem dL_846 : decode code 846 = .ok (.invokevirtual 101, 3) := by decide +kernel
theorem dL_849 : decode code 849 = .ok (.aload_n 2, 1) := by decide +kernel
theorem dL_850 : decode code 850 = .ok (.aload_n 0, 1) := by decide +kernel
theorem dL_851 : decode code 851 = .ok (.iload_n 3, 1) := by decide +kernel
theorem dL_852 : decode code 852 = .ok (.iconst 1, 1) := by decide +kernel
theorem dL_853 : decode code 853 = .ok (.iadd, 1) := by decide +kernel
theorem dL_854 : decode code 854 = .ok (.iaload, 1) := by decide +kernel
theorem dL_855 : decode code 855 = .ok (.invokevirtual 104, 3) := by decide +kernel
theorem dL_858 : decode code 858 = .ok (.if_icmp .eq 502, 3) := by decide +kernel
theorem dL_861 : decode code 861 = .ok (.iconst 0, 1) := by decide +kernel
theorem dL_862 : decode code 862 = .ok (.ireturn, 1) := by decide +kernel
theorem dL_863 : decode code 863 = .ok (.aload_n 1, 1) := by decide +kernel
theorem dL_864 : decode code 864 = .ok (.aload_n 0, 1) := by decide +kernel
theorem dL_865 : decode code 865 = .ok (.iload_n 3, 1) := by decide +kernel
theorem dL_866 : decode code 866 = .ok (.iconst 1, 1) := by decide +kernel
theorem dL_867 : decode code 867 = .ok (.iadd, 1) := by decide +kernel
theorem dL_868 : decode code 868 = .ok (.iaload, 1) := by decide +kernel
theorem dL_869 : decode code 869 = .ok (.aload_n 0, 1) := by decide +kernel
theorem dL_870 : decode code 870 = .ok (.iload_n 3, 1) := by decide +kernel
theorem dL_871 : decode code 871 = .ok (.iconst 2, 1) := by decide +kernel
theorem dL_872 : decode code 872 = .ok (.iadd, 1) := by decide +kernel
theorem dL_873 : decode code 873 = .ok (.iaload, 1) := by decide +kernel
theorem dL_874 : decode code 874 = .ok (.aload_n 0, 1) := by decide +kernel
theorem dL_875 : decode code 875 = .ok (.iload_n 3, 1) := by decide +kernel
theorem dL_876 : decode code 876 = .ok (.iconst 3, 1) := by decide +kernel
theorem dL_877 : decode code 877 = .ok (.iadd, 1) := by decide +kernel
theorem dL_878 : decode code 878 = .ok (.iaload, 1) := by decide +kernel
theorem dL_879 : decode code 879 = .ok (.invokevirtual 105, 3) := by decide +kernel
theorem dL_882 : decode code 882 = .ok (.aload_n 2, 1) := by decide +kernel
theorem dL_883 : decode code 883 = .ok (.aload_n 0, 1) := by decide +kernel
theorem dL_884 : decode code 884 = .ok (.iload_n 3, 1) := by decide +kernel
theorem dL_885 : decode code 885 = .ok (.iconst 1, 1) := by decide +kernel
theorem dL_886 : decode code 886 = .ok (.iadd, 1) := by decide +kernel
theorem dL_887 : decode code 887 = .ok (.iaload, 1) := by decide +kernel
theorem dL_888 : decode code 888 = .ok (.aload_n 0, 1) := by decide +kernel
theorem dL_889 : decode code 889 = .ok (.iload_n 3, 1) := by decide +kernel
theorem dL_890 : decode code 890 = .ok (.iconst 2, 1) := by decide +kernel
theorem dL_891 : decode code 891 = .ok (.iadd, 1) := by decide +kernel
theorem dL_892 : decode code 892 = .ok (.iaload, 1) := by decide +kernel
theorem dL_893 : decode code 893 = .ok (.aload_n 0, 1) := by decide +kernel
theorem dL_894 : decode code 894 = .ok (.iload_n 3, 1) := by decide +kernel
theorem dL_895 : decode code 895 = .ok (.iconst 3, 1) := by decide +kernel
theorem dL_896 : decode code 896 = .ok (.iadd, 1) := by decide +kernel
theorem dL_897 : decode code 897 = .ok (.iaload, 1) := by decide +kernel
theorem dL_898 : decode code 898 = .ok (.invokevirtual 108, 3) := by decide +kernel
theorem dL_901 : decode code 901 = .ok (.if_icmp .eq 459, 3) := by decide +kernel
theorem dL_904 : decode code 904 = .ok (.iconst 0, 1) := by decide +kernel
theorem dL_905 : decode code 905 = .ok (.ireturn, 1) := by decide +kernel
theorem dL_906 : decode code 906 = .ok (.aload_n 1, 1) := by decide +kernel
theorem dL_907 : decode code 907 = .ok (.aload_n 0, 1) := by decide +kernel
theorem dL_908 : decode code 908 = .ok (.iload_n 3, 1) := by decide +kernel
theorem dL_909 : decode code 909 = .ok (.iconst 1, 1) := by decide +kernel
theorem dL_910 : decode code 910 = .ok (.iadd, 1) := by decide +kernel
theorem dL_911 : decode code 911 = .ok (.iaload, 1) := by decide +kernel
theorem dL_912 : decode code 912 = .ok (.invokevirtual 109, 3) := by decide +kernel
theorem dL_915 : decode code 915 = .ok (.aload_n 2, 1) := by decide +kernel
theorem dL_916 : decode code 916 = .ok (.aload_n 0, 1) := by decide +kernel
theorem dL_917 : decode code 917 = .ok (.iload_n 3, 1) := by decide +kernel
theorem dL_918 : decode code 918 = .ok (.iconst 1, 1) := by decide +kernel
theorem dL_919 : decode code 919 = .ok (.iadd, 1) := by decide +kernel
theorem dL_920 : decode code 920 = .ok (.iaload, 1) := by decide +kernel
theorem dL_921 : decode code 921 = .ok (.invokevirtual 112, 3) := by decide +kernel
theorem dL_924 : decode code 924 = .ok (.if_icmp .eq 436, 3) := by decide +kernel
theorem dL_927 : decode code 927 = .ok (.iconst 0, 1) := by decide +kernel
theorem dL_928 : decode code 928 = .ok (.ireturn, 1) := by decide +kernel
theorem dL_929 : decode code 929 = .ok (.aload_n 1, 1) := by decide +kernel
theorem dL_930 : decode code 930 = .ok (.aload_n 0, 1) := by decide +kernel
theorem dL_931 : decode code 931 = .ok (.iload_n 3, 1) := by decide +kernel
theorem dL_932 : decode code 932 = .ok (.iconst 1, 1) := by decide +kernel
theorem dL_933 : decode code 933 = .ok (.iadd, 1) := by decide +kernel
theorem dL_934 : decode code 934 = .ok (.iaload, 1) := by decide +kernel
theorem dL_935 : decode code 935 = .ok (.aload_n 0, 1) := by decide +kernel
theorem dL_936 : decode code 936 = .ok (.iload_n 3, 1) := by decide +kernel
theorem dL_937 : decode code 937 = .ok (.iconst 2, 1) := by decide +kernel
theorem dL_938 : decode code 938 = .ok (.iadd, 1) := by decide +kernel
theorem dL_939 : decode code 939 = .ok (.iaload, 1) := by decide +kernel
theorem dL_940 : decode code 940 = .ok (.invokevirtual 113, 3) := by decide +kernel
theorem dL_943 : decode code 943 = .ok (.aload_n 2, 1) := by decide +kernel
theorem dL_944 : decode code 944 = .ok (.aload_n 0, 1) := by decide +kernel
theorem dL_945 : decode code 945 = .ok (.iload_n 3, 1) := by decide +kernel
theorem dL_946 : decode code 946 = .ok (.iconst 1, 1) := by decide +kernel
theorem dL_947 : decode code 947 = .ok (.iadd, 1) := by decide +kernel
theorem dL_948 : decode code 948 = .ok (.iaload, 1) := by decide +kernel
theorem dL_949 : decode code 949 = .ok (.aload_n 0, 1) := by decide +kernel
theorem dL_950 : decode code 950 = .ok (.iload_n 3, 1) := by decide +kernel
theorem dL_951 : decode code 951 = .ok (.iconst 2, 1) := by decide +kernel
theorem dL_952 : decode code 952 = .ok (.iadd, 1) := by decide +kernel
theorem dL_953 : decode code 953 = .ok (.iaload, 1) := by decide +kernel
theorem dL_954 : decode code 954 = .ok (.invokevirtual 116, 3) := by decide +kernel
theorem dL_957 : decode code 957 = .ok (.if_icmp .eq 403, 3) := by decide +kernel
theorem dL_960 : decode code 960 = .ok (.iconst 0, 1) := by decide +kernel
theorem dL_961 : decode code 961 = .ok (.ireturn, 1) := by decide +kernel
