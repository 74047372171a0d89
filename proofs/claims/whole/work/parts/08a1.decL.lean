theorem dL_law__648 : decode cL_law_ 648 = .ok (.iload 5, 2) := by decide +kernel
theorem dL_law__650 : decode cL_law_ 650 = .ok (.if_icmp .eq 5, 3) := by decide +kernel
theorem dL_law__653 : decode cL_law_ 653 = .ok (.iconst 0, 1) := by decide +kernel
theorem dL_law__654 : decode cL_law_ 654 = .ok (.ireturn, 1) := by decide +kernel
theorem dL_law__655 : decode cL_law_ 655 = .ok (.iload 5, 2) := by decide +kernel
theorem dL_law__657 : decode cL_law_ 657 = .ok (.ifCond .ne 15, 3) := by decide +kernel
theorem dL_law__660 : decode cL_law_ 660 = .ok (.aload_n 3, 1) := by decide +kernel
theorem dL_law__661 : decode cL_law_ 661 = .ok (.iconst 0, 1) := by decide +kernel
theorem dL_law__662 : decode cL_law_ 662 = .ok (.laload, 1) := by decide +kernel
theorem dL_law__663 : decode cL_law_ 663 = .ok (.iload 6, 2) := by decide +kernel
theorem dL_law__665 : decode cL_law_ 665 = .ok (.i2l, 1) := by decide +kernel
theorem dL_law__666 : decode cL_law_ 666 = .ok (.lcmp, 1) := by decide +kernel
theorem dL_law__667 : decode cL_law_ 667 = .ok (.ifCond .eq 5, 3) := by decide +kernel
theorem dL_law__670 : decode cL_law_ 670 = .ok (.iconst 0, 1) := by decide +kernel
theorem dL_law__671 : decode cL_law_ 671 = .ok (.ireturn, 1) := by decide +kernel
theorem dL_law__672 : decode cL_law_ 672 = .ok (.goto 2135, 3) := by decide +kernel
theorem dL_law__675 : decode cL_law_ 675 = .ok (.aload_n 1, 1) := by decide +kernel
theorem dL_law__676 : decode cL_law_ 676 = .ok (.aload_n 0, 1) := by decide +kernel
theorem dL_law__677 : decode cL_law_ 677 = .ok (.iload 4, 2) := by decide +kernel
theorem dL_law__679 : decode cL_law_ 679 = .ok (.iconst 1, 1) := by decide +kernel
theorem dL_law__680 : decode cL_law_ 680 = .ok (.iadd, 1) := by decide +kernel
theorem dL_law__681 : decode cL_law_ 681 = .ok (.iaload, 1) := by decide +kernel
theorem dL_law__682 : decode cL_law_ 682 = .ok (.aload_n 0, 1) := by decide +kernel
theorem dL_law__683 : decode cL_law_ 683 = .ok (.iload 4, 2) := by decide +kernel
theorem dL_law__685 : decode cL_law_ 685 = .ok (.iconst 2, 1) := by decide +kernel
theorem dL_law__686 : decode cL_law_ 686 = .ok (.iadd, 1) := by decide +kernel
theorem dL_law__687 : decode cL_law_ 687 = .ok (.iaload, 1) := by decide +kernel
theorem dL_law__688 : decode cL_law_ 688 = .ok (.aload_n 3, 1) := by decide +kernel
theorem dL_law__689 : decode cL_law_ 689 = .ok (.invokestatic 165, 3) := by decide +kernel
theorem dL_law__692 : decode cL_law_ 692 = .ok (.istore 5, 2) := by decide +kernel
theorem dL_law__694 : decode cL_law_ 694 = .ok (.aload_n 2, 1) := by decide +kernel
theorem dL_law__695 : decode cL_law_ 695 = .ok (.aload_n 0, 1) := by decide +kernel
theorem dL_law__696 : decode cL_law_ 696 = .ok (.iload 4, 2) := by decide +kernel
theorem dL_law__698 : decode cL_law_ 698 = .ok (.iconst 1, 1) := by decide +kernel
theorem dL_law__699 : decode cL_law_ 699 = .ok (.iadd, 1) := by decide +kernel
theorem dL_law__700 : decode cL_law_ 700 = .ok (.iaload, 1) := by decide +kernel
theorem dL_law__701 : decode cL_law_ 701 = .ok (.aload_n 0, 1) := by decide +kernel
theorem dL_law__702 : decode cL_law_ 702 = .ok (.iload 4, 2) := by decide +kernel
theorem dL_law__704 : decode cL_law_ 704 = .ok (.iconst 2, 1) := by decide +kernel
theorem dL_law__705 : decode cL_law_ 705 = .ok (.iadd, 1) := by decide +kernel
theorem dL_law__706 : decode cL_law_ 706 = .ok (.iaload, 1) := by decide +kernel
theorem dL_law__707 : decode cL_law_ 707 = .ok (.invokevirtual 167, 3) := by decide +kernel
theorem dL_law__710 : decode cL_law_ 710 = .ok (.istore 6, 2) := by decide +kernel
theorem dL_law__712 : decode cL_law_ 712 = .ok (.aload_n 2, 1) := by decide +kernel
theorem dL_law__713 : decode cL_law_ 713 = .ok (.invokevirtual 137, 3) := by decide +kernel
theorem dL_law__716 : decode cL_law_ 716 = .ok (.iload 5, 2) := by decide +kernel
theorem dL_law__718 : decode cL_law_ 718 = .ok (.if_icmp .eq 5, 3) := by decide +kernel
theorem dL_law__721 : decode cL_law_ 721 = .ok (.iconst 0, 1) := by decide +kernel
theorem dL_law__722 : decode cL_law_ 722 = .ok (.ireturn, 1) := by decide +kernel
theorem dL_law__723 : decode cL_law_ 723 = .ok (.iload 5, 2) := by decide +kernel
theorem dL_law__725 : decode cL_law_ 725 = .ok (.ifCond .ne 15, 3) := by decide +kernel
theorem dL_law__728 : decode cL_law_ 728 = .ok (.aload_n 3, 1) := by decide +kernel
theorem dL_law__729 : decode cL_law_ 729 = .ok (.iconst 0, 1) := by decide +kernel
theorem dL_law__730 : decode cL_law_ 730 = .ok (.laload, 1) := by decide +kernel
theorem dL_law__731 : decode cL_law_ 731 = .ok (.iload 6, 2) := by decide +kernel
theorem dL_law__733 : decode cL_law_ 733 = .ok (.i2l, 1) := by decide +kernel
theorem dL_law__734 : decode cL_law_ 734 = .ok (.lcmp, 1) := by decide +kernel
theorem dL_law__735 : decode cL_law_ 735 = .ok (.ifCond .eq 5, 3) := by decide +kernel
theorem dL_law__738 : decode cL_law_ 738 = .ok (.iconst 0, 1) := by decide +kernel
theorem dL_law__739 : decode cL_law_ 739 = .ok (.ireturn, 1) := by decide +kernel
theorem dL_law__740 : decode cL_law_ 740 = .ok (.goto 2067, 3) := by decide +kernel
theorem dL_law__743 : decode cL_law_ 743 = .ok (.aload_n 1, 1) := by decide +kernel
theorem dL_law__744 : decode cL_law_ 744 = .ok (.aload_n 0, 1) := by decide +kernel
theorem dL_law__745 : decode cL_law_ 745 = .ok (.iload 4, 2) := by decide +kernel
theorem dL_law__747 : decode cL_law_ 747 = .ok (.iconst 1, 1) := by decide +kernel
theorem dL_law__748 : decode cL_law_ 748 = .ok (.iadd, 1) := by decide +kernel
theorem dL_law__749 : decode cL_law_ 749 = .ok (.iaload, 1) := by decide +kernel
theorem dL_law__750 : decode cL_law_ 750 = .ok (.aload_n 0, 1) := by decide +kernel
theorem dL_law__751 : decode cL_law_ 751 = .ok (.iload 4, 2) := by decide +kernel
theorem dL_law__753 : decode cL_law_ 753 = .ok (.iconst 2, 1) := by decide +kernel
theorem dL_law__754 : decode cL_law_ 754 = .ok (.iadd, 1) := by decide +kernel
theorem dL_law__755 : decode cL_law_ 755 = .ok (.iaload, 1) := by decide +kernel
theorem dL_law__756 : decode cL_law_ 756 = .ok (.aload_n 3, 1) := by decide +kernel
theorem dL_law__757 : decode cL_law_ 757 = .ok (.invokestatic 168, 3) := by decide +kernel
theorem dL_law__760 : decode cL_law_ 760 = .ok (.istore 5, 2) := by decide +kernel
theorem dL_law__762 : decode cL_law_ 762 = .ok (.aload_n 2, 1) := by decide +kernel
theorem dL_law__763 : decode cL_law_ 763 = .ok (.aload_n 0, 1) := by decide +kernel
theorem dL_law__764 : decode cL_law_ 764 = .ok (.iload 4, 2) := by decide +kernel
theorem dL_law__766 : decode cL_law_ 766 = .ok (.iconst 1, 1) := by decide +kernel
theorem dL_law__767 : decode cL_law_ 767 = .ok (.iadd, 1) := by decide +kernel
theorem dL_law__768 : decode cL_law_ 768 = .ok (.iaload, 1) := by decide +kernel
theorem dL_law__769 : decode cL_law_ 769 = .ok (.aload_n 0, 1) := by decide +kernel
theorem dL_law__770 : decode cL_law_ 770 = .ok (.iload 4, 2) := by decide +kernel
theorem dL_law__772 : decode cL_law_ 772 = .ok (.iconst 2, 1) := by decide +kernel
theorem dL_law__773 : decode cL_law_ 773 = .ok (.iadd, 1) := by decide +kernel
theorem dL_law__774 : decode cL_law_ 774 = .ok (.iaload, 1) := by decide +kernel
theorem dL_law__775 : decode cL_law_ 775 = .ok (.invokevirtual 170, 3) := by decide +kernel
theorem dL_law__778 : decode cL_law_ 778 = .ok (.istore 6, 2) := by decide +kernel
theorem dL_law__780 : decode cL_law_ 780 = .ok (.aload_n 2, 1) := by decide +kernel
theorem dL_law__781 : decode cL_law_ 781 = .ok (.invokevirtual 137, 3) := by decide +kernel
theorem dL_law__784 : decode cL_law_ 784 = .ok (.iload 5, 2) := by decide +kernel
theorem dL_law__786 : decode cL_law_ 786 = .ok (.if_icmp .eq 5, 3) := by decide +kernel
theorem dL_law__789 : decode cL_law_ 789 = .ok (.iconst 0, 1) := by decide +kernel
theorem dL_law__790 : decode cL_law_ 790 = .ok (.ireturn, 1) := by decide +kernel
theorem dL_law__791 : decode cL_law_ 791 = .ok (.iload 5, 2) := by decide +kernel
theorem dL_law__793 : decode cL_law_ 793 = .ok (.ifCond .ne 15, 3) := by decide +kernel
theorem dL_law__796 : decode cL_law_ 796 = .ok (.aload_n 3, 1) := by decide +kernel
theorem dL_law__797 : decode cL_law_ 797 = .ok (.iconst 0, 1) := by decide +kernel
theorem dL_law__798 : decode cL_law_ 798 = .ok (.laload, 1) := by decide +kernel
theorem dL_law__799 : decode cL_law_ 799 = .ok (.iload 6, 2) := by decide +kernel
theorem dL_law__801 : decode cL_law_ 801 = .ok (.i2l, 1) := by decide +kernel
theorem dL_law__802 : decode cL_law_ 802 = .ok (.lcmp, 1) := by decide +kernel
theorem dL_law__803 : decode cL_law_ 803 = .ok (.ifCond .eq 5, 3) := by decide +kernel
theorem dL_law__806 : decode cL_law_ 806 = .ok (.iconst 0, 1) := by decide +kernel
theorem dL_law__807 : decode cL_law_ 807 = .ok (.ireturn, 1) := by decide +kernel
theorem dL_law__808 : decode cL_law_ 808 = .ok (.goto 1999, 3) := by decide +kernel
theorem dL_law__811 : decode cL_law_ 811 = .ok (.aload_n 1, 1) := by decide +kernel
theorem dL_law__812 : decode cL_law_ 812 = .ok (.aload_n 0, 1) := by decide +kernel
theorem dL_law__813 : decode cL_law_ 813 = .ok (.iload 4, 2) := by decide +kernel
theorem dL_law__815 : decode cL_law_ 815 = .ok (.iconst 1, 1) := by decide +kernel
theorem dL_law__816 : decode cL_law_ 816 = .ok (.iadd, 1) := by decide +kernel
theorem dL_law__817 : decode cL_law_ 817 = .ok (.iaload, 1) := by decide +kernel
theorem dL_law__818 : decode cL_law_ 818 = .ok (.aload_n 0, 1) := by decide +kernel
theorem dL_law__819 : decode cL_law_ 819 = .ok (.iload 4, 2) := by decide +kernel
theorem dL_law__821 : decode cL_law_ 821 = .ok (.iconst 2, 1) := by decide +kernel
theorem dL_law__822 : decode cL_law_ 822 = .ok (.iadd, 1) := by decide +kernel
theorem dL_law__823 : decode cL_law_ 823 = .ok (.iaload, 1) := by decide +kernel
theorem dL_law__824 : decode cL_law_ 824 = .ok (.aload_n 0, 1) := by decide +kernel
theorem dL_law__825 : decode cL_law_ 825 = .ok (.iload 4, 2) := by decide +kernel
theorem dL_law__827 : decode cL_law_ 827 = .ok (.iconst 3, 1) := by decide +kernel
theorem dL_law__828 : decode cL_law_ 828 = .ok (.iadd, 1) := by decide +kernel
theorem dL_law__829 : decode cL_law_ 829 = .ok (.iaload, 1) := by decide +kernel
theorem dL_law__830 : decode cL_law_ 830 = .ok (.aload_n 0, 1) := by decide +kernel
theorem dL_law__831 : decode cL_law_ 831 = .ok (.iload 4, 2) := by decide +kernel
theorem dL_law__833 : decode cL_law_ 833 = .ok (.iconst 4, 1) := by decide +kernel
theorem dL_law__834 : decode cL_law_ 834 = .ok (.iadd, 1) := by decide +kernel
theorem dL_law__835 : decode cL_law_ 835 = .ok (.iaload, 1) := by decide +kernel
theorem dL_law__836 : decode cL_law_ 836 = .ok (.aload_n 0, 1) := by decide +kernel
theorem dL_law__837 : decode cL_law_ 837 = .ok (.iload 4, 2) := by decide +kernel
theorem dL_law__839 : decode cL_law_ 839 = .ok (.iconst 5, 1) := by decide +kernel
theorem dL_law__840 : decode cL_law_ 840 = .ok (.iadd, 1) := by decide +kernel
theorem dL_law__841 : decode cL_law_ 841 = .ok (.iaload, 1) := by decide +kernel
theorem dL_law__842 : decode cL_law_ 842 = .ok (.aload_n 0, 1) := by decide +kernel
theorem dL_law__843 : decode cL_law_ 843 = .ok (.iload 4, 2) := by decide +kernel
theorem dL_law__845 : decode cL_law_ 845 = .ok (.bipush 6, 2) := by decide +kernel
theorem dL_law__847 : decode cL_law_ 847 = .ok (.iadd, 1) := by decide +kernel
theorem dL_law__848 : decode cL_law_ 848 = .ok (.iaload, 1) := by decide +kernel
theorem dL_law__849 : decode cL_law_ 849 = .ok (.aload_n 0, 1) := by decide +kernel
theorem dL_law__850 : decode cL_law_ 850 = .ok (.iload 4, 2) := by decide +kernel
theorem dL_law__852 : decode cL_law_ 852 = .ok (.bipush 7, 2) := by decide +kernel
theorem dL_law__854 : decode cL_law_ 854 = .ok (.iadd, 1) := by decide +kernel
theorem dL_law__855 : decode cL_law_ 855 = .ok (.iaload, 1) := by decide +kernel
theorem dL_law__856 : decode cL_law_ 856 = .ok (.aload_n 0, 1) := by decide +kernel
theorem dL_law__857 : decode cL_law_ 857 = .ok (.iload 4, 2) := by decide +kernel
theorem dL_law__859 : decode cL_law_ 859 = .ok (.bipush 8, 2) := by decide +kernel
theorem dL_law__861 : decode cL_law_ 861 = .ok (.iadd, 1) := by decide +kernel
theorem dL_law__862 : decode cL_law_ 862 = .ok (.iaload, 1) := by decide +kernel
theorem dL_law__863 : decode cL_law_ 863 = .ok (.aload_n 3, 1) := by decide +kernel
theorem dL_law__864 : decode cL_law_ 864 = .ok (.invokestatic 171, 3) := by decide +kernel
theorem dL_law__867 : decode cL_law_ 867 = .ok (.istore 5, 2) := by decide +kernel
theorem dL_law__869 : decode cL_law_ 869 = .ok (.aload_n 2, 1) := by decide +kernel
theorem dL_law__870 : decode cL_law_ 870 = .ok (.aload_n 0, 1) := by decide +kernel
theorem dL_law__871 : decode cL_law_ 871 = .ok (.iload 4, 2) := by decide +kernel
theorem dL_law__873 : decode cL_law_ 873 = .ok (.iconst 1, 1) := by decide +kernel
theorem dL_law__874 : decode cL_law_ 874 = .ok (.iadd, 1) := by decide +kernel
theorem dL_law__875 : decode cL_law_ 875 = .ok (.iaload, 1) := by decide +kernel
theorem dL_law__876 : decode cL_law_ 876 = .ok (.aload_n 0, 1) := by decide +kernel
theorem dL_law__877 : decode cL_law_ 877 = .ok (.iload 4, 2) := by decide +kernel
theorem dL_law__879 : decode cL_law_ 879 = .ok (.iconst 2, 1) := by decide +kernel
theorem dL_law__880 : decode cL_law_ 880 = .ok (.iadd, 1) := by decide +kernel
theorem dL_law__881 : decode cL_law_ 881 = .ok (.iaload, 1) := by decide +kernel
theorem dL_law__882 : decode cL_law_ 882 = .ok (.aload_n 0, 1) := by decide +kernel
theorem dL_law__883 : decode cL_law_ 883 = .ok (.iload 4, 2) := by decide +kernel
theorem dL_law__885 : decode cL_law_ 885 = .ok (.iconst 3, 1) := by decide +kernel
theorem dL_law__886 : decode cL_law_ 886 = .ok (.iadd, 1) := by decide +kernel
theorem dL_law__887 : decode cL_law_ 887 = .ok (.iaload, 1) := by decide +kernel
theorem dL_law__888 : decode cL_law_ 888 = .ok (.aload_n 0, 1) := by decide +kernel
theorem dL_law__889 : decode cL_law_ 889 = .ok (.iload 4, 2) := by decide +kernel
theorem dL_law__891 : decode cL_law_ 891 = .ok (.iconst 4, 1) := by decide +kernel
theorem dL_law__892 : decode cL_law_ 892 = .ok (.iadd, 1) := by decide +kernel
theorem dL_law__893 : decode cL_law_ 893 = .ok (.iaload, 1) := by decide +kernel
theorem dL_law__894 : decode cL_law_ 894 = .ok (.aload_n 0, 1) := by decide +kernel
theorem dL_law__895 : decode cL_law_ 895 = .ok (.iload 4, 2) := by decide +kernel
theorem dL_law__897 : decode cL_law_ 897 = .ok (.iconst 5, 1) := by decide +kernel
theorem dL_law__898 : decode cL_law_ 898 = .ok (.iadd, 1) := by decide +kernel
theorem dL_law__899 : decode cL_law_ 899 = .ok (.iaload, 1) := by decide +kernel
theorem dL_law__900 : decode cL_law_ 900 = .ok (.aload_n 0, 1) := by decide +kernel
theorem dL_law__901 : decode cL_law_ 901 = .ok (.iload 4, 2) := by decide +kernel
theorem dL_law__903 : decode cL_law_ 903 = .ok (.bipush 6, 2) := by decide +kernel
theorem dL_law__905 : decode cL_law_ 905 = .ok (.iadd, 1) := by decide +kernel
theorem dL_law__906 : decode cL_law_ 906 = .ok (.iaload, 1) := by decide +kernel
theorem dL_law__907 : decode cL_law_ 907 = .ok (.aload_n 0, 1) := by decide +kernel
theorem dL_law__908 : decode cL_law_ 908 = .ok (.iload 4, 2) := by decide +kernel
theorem dL_law__910 : decode cL_law_ 910 = .ok (.bipush 7, 2) := by decide +kernel
theorem dL_law__912 : decode cL_law_ 912 = .ok (.iadd, 1) := by decide +kernel
theorem dL_law__913 : decode cL_law_ 913 = .ok (.iaload, 1) := by decide +kernel
theorem dL_law__914 : decode cL_law_ 914 = .ok (.aload_n 0, 1) := by decide +kernel
theorem dL_law__915 : decode cL_law_ 915 = .ok (.iload 4, 2) := by decide +kernel
theorem dL_law__917 : decode cL_law_ 917 = .ok (.bipush 8, 2) := by decide +kernel
theorem dL_law__919 : decode cL_law_ 919 = .ok (.iadd, 1) := by decide +kernel
theorem dL_law__920 : decode cL_law_ 920 = .ok (.iaload, 1) := by decide +kernel
theorem dL_law__921 : decode cL_law_ 921 = .ok (.invokevirtual 174, 3) := by decide +kernel
theorem dL_law__924 : decode cL_law_ 924 = .ok (.istore 6, 2) := by decide +kernel
theorem dL_law__926 : decode cL_law_ 926 = .ok (.aload_n 2, 1) := by decide +kernel
theorem dL_law__927 : decode cL_law_ 927 = .ok (.invokevirtual 137, 3) := by decide +kernel
theorem dL_law__930 : decode cL_law_ 930 = .ok (.iload 5, 2) := by decide +kernel
theorem dL_law__932 : decode cL_law_ 932 = .ok (.if_icmp .eq 5, 3) := by decide +kernel
theorem dL_law__935 : decode cL_law_ 935 = .ok (.iconst 0, 1) := by decide +kernel
theorem dL_law__936 : decode cL_law_ 936 = .ok (.ireturn, 1) := by decide +kernel
theorem dL_law__937 : decode cL_law_ 937 = .ok (.iload 5, 2) := by decide +kernel
theorem dL_law__939 : decode cL_law_ 939 = .ok (.ifCond .ne 15, 3) := by decide +kernel
theorem dL_law__942 : decode cL_law_ 942 = .ok (.aload_n 3, 1) := by decide +kernel
theorem dL_law__943 : decode cL_law_ 943 = .ok (.iconst 0, 1) := by decide +kernel
theorem dL_law__944 : decode cL_law_ 944 = .ok (.laload, 1) := by decide +kernel
theorem dL_law__945 : decode cL_law_ 945 = .ok (.iload 6, 2) := by decide +kernel
theorem dL_law__947 : decode cL_law_ 947 = .ok (.i2l, 1) := by decide +kernel
theorem dL_law__948 : decode cL_law_ 948 = .ok (.lcmp, 1) := by decide +kernel
theorem dL_law__949 : decode cL_law_ 949 = .ok (.ifCond .eq 5, 3) := by decide +kernel
theorem dL_law__952 : decode cL_law_ 952 = .ok (.iconst 0, 1) := by decide +kernel
theorem dL_law__953 : decode cL_law_ 953 = .ok (.ireturn, 1) := by decide +kernel
theorem dL_law__954 : decode cL_law_ 954 = .ok (.goto 1853, 3) := by decide +kernel
theorem dL_law__957 : decode cL_law_ 957 = .ok (.aload_n 1, 1) := by decide +kernel
theorem dL_law__958 : decode cL_law_ 958 = .ok (.aload_n 0, 1) := by decide +kernel
theorem dL_law__959 : decode cL_law_ 959 = .ok (.iload 4, 2) := by decide +kernel
theorem dL_law__961 : decode cL_law_ 961 = .ok (.iconst 1, 1) := by decide +kernel
theorem dL_law__962 : decode cL_law_ 962 = .ok (.iadd, 1) := by decide +kernel
theorem dL_law__963 : decode cL_law_ 963 = .ok (.iaload, 1) := by decide +kernel
theorem dL_law__964 : decode cL_law_ 964 = .ok (.aload_n 0, 1) := by decide +kernel
theorem dL_law__965 : decode cL_law_ 965 = .ok (.iload 4, 2) := by decide +kernel
theorem dL_law__967 : decode cL_law_ 967 = .ok (.iconst 2, 1) := by decide +kernel
theorem dL_law__968 : decode cL_law_ 968 = .ok (.iadd, 1) := by decide +kernel
theorem dL_law__969 : decode cL_law_ 969 = .ok (.iaload, 1) := by decide +kernel
theorem dL_law__970 : decode cL_law_ 970 = .ok (.aload_n 3, 1) := by decide +kernel
theorem dL_law__971 : decode cL_law_ 971 = .ok (.invokestatic 175, 3) := by decide +kernel
theorem dL_law__974 : decode cL_law_ 974 = .ok (.istore 5, 2) := by decide +kernel
theorem dL_law__976 : decode cL_law_ 976 = .ok (.aload_n 2, 1) := by decide +kernel
theorem dL_law__977 : decode cL_law_ 977 = .ok (.aload_n 0, 1) := by decide +kernel
theorem dL_law__978 : decode cL_law_ 978 = .ok (.iload 4, 2) := by decide +kernel
theorem dL_law__980 : decode cL_law_ 980 = .ok (.iconst 1, 1) := by decide +kernel
theorem dL_law__981 : decode cL_law_ 981 = .ok (.iadd, 1) := by decide +kernel
theorem dL_law__982 : decode cL_law_ 982 = .ok (.iaload, 1) := by decide +kernel
theorem dL_law__983 : decode cL_law_ 983 = .ok (.aload_n 0, 1) := by decide +kernel
theorem dL_law__984 : decode cL_law_ 984 = .ok (.iload 4, 2) := by decide +kernel
theorem dL_law__986 : decode cL_law_ 986 = .ok (.iconst 2, 1) := by decide +kernel
theorem dL_law__987 : decode cL_law_ 987 = .ok (.iadd, 1) := by decide +kernel
theorem dL_law__988 : decode cL_law_ 988 = .ok (.iaload, 1) := by decide +kernel
theorem dL_law__989 : decode cL_law_ 989 = .ok (.invokevirtual 177, 3) := by decide +kernel
theorem dL_law__992 : decode cL_law_ 992 = .ok (.istore 6, 2) := by decide +kernel
theorem dL_law__994 : decode cL_law_ 994 = .ok (.aload_n 2, 1) := by decide +kernel
theorem dL_law__995 : decode cL_law_ 995 = .ok (.invokevirtual 137, 3) := by decide +kernel
theorem dL_law__998 : decode cL_law_ 998 = .ok (.iload 5, 2) := by decide +kernel
theorem dL_law__1000 : decode cL_law_ 1000 = .ok (.if_icmp .eq 5, 3) := by decide +kernel
theorem dL_law__1003 : decode cL_law_ 1003 = .ok (.iconst 0, 1) := by decide +kernel
theorem dL_law__1004 : decode cL_law_ 1004 = .ok (.ireturn, 1) := by decide +kernel
theorem dL_law__1005 : decode cL_law_ 1005 = .ok (.iload 5, 2) := by decide +kernel
theorem dL_law__1007 : decode cL_law_ 1007 = .ok (.ifCond .ne 15, 3) := by decide +kernel
theorem dL_law__1010 : decode cL_law_ 1010 = .ok (.aload_n 3, 1) := by decide +kernel
theorem dL_law__1011 : decode cL_law_ 1011 = .ok (.iconst 0, 1) := by decide +kernel
theorem dL_law__1012 : decode cL_law_ 1012 = .ok (.laload, 1) := by decide +kernel
theorem dL_law__1013 : decode cL_law_ 1013 = .ok (.iload 6, 2) := by decide +kernel
theorem dL_law__1015 : decode cL_law_ 1015 = .ok (.i2l, 1) := by decide +kernel
theorem dL_law__1016 : decode cL_law_ 1016 = .ok (.lcmp, 1) := by decide +kernel
theorem dL_law__1017 : decode cL_law_ 1017 = .ok (.ifCond .eq 5, 3) := by decide +kernel
theorem dL_law__1020 : decode cL_law_ 1020 = .ok (.iconst 0, 1) := by decide +kernel
theorem dL_law__1021 : decode cL_law_ 1021 = .ok (.ireturn, 1) := by decide +kernel
theorem dL_law__1022 : decode cL_law_ 1022 = .ok (.goto 1785, 3) := by decide +kernel
theorem dL_law__1025 : decode cL_law_ 1025 = .ok (.aload_n 1, 1) := by decide +kernel
theorem dL_law__1026 : decode cL_law_ 1026 = .ok (.aload_n 0, 1) := by decide +kernel
theorem dL_law__1027 : decode cL_law_ 1027 = .ok (.iload 4, 2) := by decide +kernel
theorem dL_law__1029 : decode cL_law_ 1029 = .ok (.iconst 1, 1) := by decide +kernel
theorem dL_law__1030 : decode cL_law_ 1030 = .ok (.iadd, 1) := by decide +kernel
theorem dL_law__1031 : decode cL_law_ 1031 = .ok (.iaload, 1) := by decide +kernel
theorem dL_law__1032 : decode cL_law_ 1032 = .ok (.aload_n 0, 1) := by decide +kernel
theorem dL_law__1033 : decode cL_law_ 1033 = .ok (.iload 4, 2) := by decide +kernel
theorem dL_law__1035 : decode cL_law_ 1035 = .ok (.iconst 2, 1) := by decide +kernel
theorem dL_law__1036 : decode cL_law_ 1036 = .ok (.iadd, 1) := by decide +kernel
theorem dL_law__1037 : decode cL_law_ 1037 = .ok (.iaload, 1) := by decide +kernel
theorem dL_law__1038 : decode cL_law_ 1038 = .ok (.aload_n 0, 1) := by decide +kernel
theorem dL_law__1039 : decode cL_law_ 1039 = .ok (.iload 4, 2) := by decide +kernel
theorem dL_law__1041 : decode cL_law_ 1041 = .ok (.iconst 3, 1) := by decide +kernel
theorem dL_law__1042 : decode cL_law_ 1042 = .ok (.iadd, 1) := by decide +kernel
theorem dL_law__1043 : decode cL_law_ 1043 = .ok (.iaload, 1) := by decide +kernel
theorem dL_law__1044 : decode cL_law_ 1044 = .ok (.aload_n 3, 1) := by decide +kernel
theorem dL_law__1045 : decode cL_law_ 1045 = .ok (.invokestatic 178, 3) := by decide +kernel
theorem dL_law__1048 : decode cL_law_ 1048 = .ok (.istore 5, 2) := by decide +kernel
theorem dL_law__1050 : decode cL_law_ 1050 = .ok (.aload_n 2, 1) := by decide +kernel
theorem dL_law__1051 : decode cL_law_ 1051 = .ok (.aload_n 0, 1) := by decide +kernel
theorem dL_law__1052 : decode cL_law_ 1052 = .ok (.iload 4, 2) := by decide +kernel
theorem dL_law__1054 : decode cL_law_ 1054 = .ok (.iconst 1, 1) := by decide +kernel
theorem dL_law__1055 : decode cL_law_ 1055 = .ok (.iadd, 1) := by decide +kernel
theorem dL_law__1056 : decode cL_law_ 1056 = .ok (.iaload, 1) := by decide +kernel
theorem dL_law__1057 : decode cL_law_ 1057 = .ok (.aload_n 0, 1) := by decide +kernel
theorem dL_law__1058 : decode cL_law_ 1058 = .ok (.iload 4, 2) := by decide +kernel
theorem dL_law__1060 : decode cL_law_ 1060 = .ok (.iconst 2, 1) := by decide +kernel
theorem dL_law__1061 : decode cL_law_ 1061 = .ok (.iadd, 1) := by decide +kernel
theorem dL_law__1062 : decode cL_law_ 1062 = .ok (.iaload, 1) := by decide +kernel
theorem dL_law__1063 : decode cL_law_ 1063 = .ok (.aload_n 0, 1) := by decide +kernel
theorem dL_law__1064 : decode cL_law_ 1064 = .ok (.iload 4, 2) := by decide +kernel
theorem dL_law__1066 : decode cL_law_ 1066 = .ok (.iconst 3, 1) := by decide +kernel
theorem dL_law__1067 : decode cL_law_ 1067 = .ok (.iadd, 1) := by decide +kernel
theorem dL_law__1068 : decode cL_law_ 1068 = .ok (.iaload, 1) := by decide +kernel
theorem dL_law__1069 : decode cL_law_ 1069 = .ok (.invokevirtual 181, 3) := by decide +kernel
theorem dL_law__1072 : decode cL_law_ 1072 = .ok (.istore 6, 2) := by decide +kernel
theorem dL_law__1074 : decode cL_law_ 1074 = .ok (.aload_n 2, 1) := by decide +kernel
theorem dL_law__1075 : decode cL_law_ 1075 = .ok (.invokevirtual 137, 3) := by decide +kernel
theorem dL_law__1078 : decode cL_law_ 1078 = .ok (.iload 5, 2) := by decide +kernel
theorem dL_law__1080 : decode cL_law_ 1080 = .ok (.if_icmp .eq 5, 3) := by decide +kernel
theorem dL_law__1083 : decode cL_law_ 1083 = .ok (.iconst 0, 1) := by decide +kernel
theorem dL_law__1084 : decode cL_law_ 1084 = .ok (.ireturn, 1) := by decide +kernel
theorem dL_law__1085 : decode cL_law_ 1085 = .ok (.iload 5, 2) := by decide +kernel
