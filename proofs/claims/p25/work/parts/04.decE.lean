theorem dL_isStep_510 : decode cL_isStep 510 = .ok (.iload 4, 2) := by decide +kernel
theorem dL_isStep_512 : decode cL_isStep 512 = .ok (.imul, 1) := by decide +kernel
theorem dL_isStep_513 : decode cL_isStep 513 = .ok (.invokevirtual 28, 3) := by decide +kernel
theorem dL_isStep_516 : decode cL_isStep 516 = .ok (.iconst 2, 1) := by decide +kernel
theorem dL_isStep_517 : decode cL_isStep 517 = .ok (.iload 4, 2) := by decide +kernel
theorem dL_isStep_519 : decode cL_isStep 519 = .ok (.imul, 1) := by decide +kernel
theorem dL_isStep_520 : decode cL_isStep 520 = .ok (.iconst 1, 1) := by decide +kernel
theorem dL_isStep_521 : decode cL_isStep 521 = .ok (.iadd, 1) := by decide +kernel
theorem dL_isStep_522 : decode cL_isStep 522 = .ok (.if_icmp .ne 7, 3) := by decide +kernel
theorem dL_isStep_525 : decode cL_isStep 525 = .ok (.iconst 1, 1) := by decide +kernel
theorem dL_isStep_526 : decode cL_isStep 526 = .ok (.goto 4, 3) := by decide +kernel
theorem dL_isStep_529 : decode cL_isStep 529 = .ok (.iconst 0, 1) := by decide +kernel
theorem dL_isStep_530 : decode cL_isStep 530 = .ok (.ireturn, 1) := by decide +kernel
theorem dL_isStep_531 : decode cL_isStep 531 = .ok (.iload 6, 2) := by decide +kernel
theorem dL_isStep_533 : decode cL_isStep 533 = .ok (.iload 4, 2) := by decide +kernel
theorem dL_isStep_535 : decode cL_isStep 535 = .ok (.if_icmp .eq 17, 3) := by decide +kernel
theorem dL_isStep_538 : decode cL_isStep 538 = .ok (.iload 7, 2) := by decide +kernel
theorem dL_isStep_540 : decode cL_isStep 540 = .ok (.iload 4, 2) := by decide +kernel
theorem dL_isStep_542 : decode cL_isStep 542 = .ok (.if_icmp .eq 10, 3) := by decide +kernel
theorem dL_isStep_545 : decode cL_isStep 545 = .ok (.iload 8, 2) := by decide +kernel
theorem dL_isStep_547 : decode cL_isStep 547 = .ok (.iload 4, 2) := by decide +kernel
theorem dL_isStep_549 : decode cL_isStep 549 = .ok (.if_icmp .ne 26, 3) := by decide +kernel
theorem dL_isStep_552 : decode cL_isStep 552 = .ok (.aload_n 0, 1) := by decide +kernel
theorem dL_isStep_553 : decode cL_isStep 553 = .ok (.iload 6, 2) := by decide +kernel
theorem dL_isStep_555 : decode cL_isStep 555 = .ok (.iload 7, 2) := by decide +kernel
theorem dL_isStep_557 : decode cL_isStep 557 = .ok (.iload 8, 2) := by decide +kernel
theorem dL_isStep_559 : decode cL_isStep 559 = .ok (.invokevirtual 42, 3) := by decide +kernel
theorem dL_isStep_562 : decode cL_isStep 562 = .ok (.ldc 35, 2) := by decide +kernel
theorem dL_isStep_564 : decode cL_isStep 564 = .ok (.if_icmp .ne 7, 3) := by decide +kernel
theorem dL_isStep_567 : decode cL_isStep 567 = .ok (.iconst 1, 1) := by decide +kernel
theorem dL_isStep_568 : decode cL_isStep 568 = .ok (.goto 69, 3) := by decide +kernel
theorem dL_isStep_571 : decode cL_isStep 571 = .ok (.iconst 0, 1) := by decide +kernel
theorem dL_isStep_572 : decode cL_isStep 572 = .ok (.goto 65, 3) := by decide +kernel
theorem dL_isStep_575 : decode cL_isStep 575 = .ok (.aload_n 0, 1) := by decide +kernel
theorem dL_isStep_576 : decode cL_isStep 576 = .ok (.iload 6, 2) := by decide +kernel
theorem dL_isStep_578 : decode cL_isStep 578 = .ok (.iload 7, 2) := by decide +kernel
theorem dL_isStep_580 : decode cL_isStep 580 = .ok (.iload 8, 2) := by decide +kernel
theorem dL_isStep_582 : decode cL_isStep 582 = .ok (.invokevirtual 42, 3) := by decide +kernel
theorem dL_isStep_585 : decode cL_isStep 585 = .ok (.iload 4, 2) := by decide +kernel
theorem dL_isStep_587 : decode cL_isStep 587 = .ok (.if_icmp .ne 49, 3) := by decide +kernel
theorem dL_isStep_590 : decode cL_isStep 590 = .ok (.aload_n 1, 1) := by decide +kernel
theorem dL_isStep_591 : decode cL_isStep 591 = .ok (.iconst 2, 1) := by decide +kernel
theorem dL_isStep_592 : decode cL_isStep 592 = .ok (.iload 7, 2) := by decide +kernel
theorem dL_isStep_594 : decode cL_isStep 594 = .ok (.imul, 1) := by decide +kernel
theorem dL_isStep_595 : decode cL_isStep 595 = .ok (.iconst 2, 1) := by decide +kernel
theorem dL_isStep_596 : decode cL_isStep 596 = .ok (.iload 6, 2) := by decide +kernel
theorem dL_isStep_598 : decode cL_isStep 598 = .ok (.imul, 1) := by decide +kernel
theorem dL_isStep_599 : decode cL_isStep 599 = .ok (.iconst 2, 1) := by decide +kernel
theorem dL_isStep_600 : decode cL_isStep 600 = .ok (.iload 8, 2) := by decide +kernel
theorem dL_isStep_602 : decode cL_isStep 602 = .ok (.imul, 1) := by decide +kernel
theorem dL_isStep_603 : decode cL_isStep 603 = .ok (.iconst 1, 1) := by decide +kernel
theorem dL_isStep_604 : decode cL_isStep 604 = .ok (.iadd, 1) := by decide +kernel
theorem dL_isStep_605 : decode cL_isStep 605 = .ok (.invokevirtual 42, 3) := by decide +kernel
theorem dL_isStep_608 : decode cL_isStep 608 = .ok (.iconst 2, 1) := by decide +kernel
theorem dL_isStep_609 : decode cL_isStep 609 = .ok (.iload 4, 2) := by decide +kernel
theorem dL_isStep_611 : decode cL_isStep 611 = .ok (.imul, 1) := by decide +kernel
theorem dL_isStep_612 : decode cL_isStep 612 = .ok (.if_icmp .ne 24, 3) := by decide +kernel
theorem dL_isStep_615 : decode cL_isStep 615 = .ok (.aload_n 1, 1) := by decide +kernel
theorem dL_isStep_616 : decode cL_isStep 616 = .ok (.iconst 2, 1) := by decide +kernel
theorem dL_isStep_617 : decode cL_isStep 617 = .ok (.iload 4, 2) := by decide +kernel
theorem dL_isStep_619 : decode cL_isStep 619 = .ok (.imul, 1) := by decide +kernel
theorem dL_isStep_620 : decode cL_isStep 620 = .ok (.invokevirtual 28, 3) := by decide +kernel
theorem dL_isStep_623 : decode cL_isStep 623 = .ok (.iconst 2, 1) := by decide +kernel
theorem dL_isStep_624 : decode cL_isStep 624 = .ok (.iload 4, 2) := by decide +kernel
theorem dL_isStep_626 : decode cL_isStep 626 = .ok (.imul, 1) := by decide +kernel
theorem dL_isStep_627 : decode cL_isStep 627 = .ok (.iconst 1, 1) := by decide +kernel
theorem dL_isStep_628 : decode cL_isStep 628 = .ok (.iadd, 1) := by decide +kernel
theorem dL_isStep_629 : decode cL_isStep 629 = .ok (.if_icmp .ne 7, 3) := by decide +kernel
theorem dL_isStep_632 : decode cL_isStep 632 = .ok (.iconst 1, 1) := by decide +kernel
theorem dL_isStep_633 : decode cL_isStep 633 = .ok (.goto 4, 3) := by decide +kernel
theorem dL_isStep_636 : decode cL_isStep 636 = .ok (.iconst 0, 1) := by decide +kernel
theorem dL_isStep_637 : decode cL_isStep 637 = .ok (.ireturn, 1) := by decide +kernel
theorem dL_isStep_638 : decode cL_isStep 638 = .ok (.iload 6, 2) := by decide +kernel
theorem dL_isStep_640 : decode cL_isStep 640 = .ok (.iload 4, 2) := by decide +kernel
theorem dL_isStep_642 : decode cL_isStep 642 = .ok (.if_icmp .ne 22, 3) := by decide +kernel
theorem dL_isStep_645 : decode cL_isStep 645 = .ok (.aload_n 0, 1) := by decide +kernel
theorem dL_isStep_646 : decode cL_isStep 646 = .ok (.iload 6, 2) := by decide +kernel
theorem dL_isStep_648 : decode cL_isStep 648 = .ok (.invokevirtual 28, 3) := by decide +kernel
theorem dL_isStep_651 : decode cL_isStep 651 = .ok (.ldc 35, 2) := by decide +kernel
theorem dL_isStep_653 : decode cL_isStep 653 = .ok (.if_icmp .ne 7, 3) := by decide +kernel
theorem dL_isStep_656 : decode cL_isStep 656 = .ok (.iconst 1, 1) := by decide +kernel
theorem dL_isStep_657 : decode cL_isStep 657 = .ok (.goto 55, 3) := by decide +kernel
theorem dL_isStep_660 : decode cL_isStep 660 = .ok (.iconst 0, 1) := by decide +kernel
theorem dL_isStep_661 : decode cL_isStep 661 = .ok (.goto 51, 3) := by decide +kernel
theorem dL_isStep_664 : decode cL_isStep 664 = .ok (.aload_n 0, 1) := by decide +kernel
theorem dL_isStep_665 : decode cL_isStep 665 = .ok (.iload 6, 2) := by decide +kernel
theorem dL_isStep_667 : decode cL_isStep 667 = .ok (.invokevirtual 28, 3) := by decide +kernel
theorem dL_isStep_670 : decode cL_isStep 670 = .ok (.iload 4, 2) := by decide +kernel
theorem dL_isStep_672 : decode cL_isStep 672 = .ok (.if_icmp .ne 39, 3) := by decide +kernel
theorem dL_isStep_675 : decode cL_isStep 675 = .ok (.aload_n 1, 1) := by decide +kernel
theorem dL_isStep_676 : decode cL_isStep 676 = .ok (.iconst 2, 1) := by decide +kernel
theorem dL_isStep_677 : decode cL_isStep 677 = .ok (.iload 6, 2) := by decide +kernel
theorem dL_isStep_679 : decode cL_isStep 679 = .ok (.imul, 1) := by decide +kernel
theorem dL_isStep_680 : decode cL_isStep 680 = .ok (.invokevirtual 28, 3) := by decide +kernel
theorem dL_isStep_683 : decode cL_isStep 683 = .ok (.iconst 2, 1) := by decide +kernel
theorem dL_isStep_684 : decode cL_isStep 684 = .ok (.iload 4, 2) := by decide +kernel
theorem dL_isStep_686 : decode cL_isStep 686 = .ok (.imul, 1) := by decide +kernel
theorem dL_isStep_687 : decode cL_isStep 687 = .ok (.if_icmp .ne 24, 3) := by decide +kernel
theorem dL_isStep_690 : decode cL_isStep 690 = .ok (.aload_n 1, 1) := by decide +kernel
theorem dL_isStep_691 : decode cL_isStep 691 = .ok (.iconst 2, 1) := by decide +kernel
theorem dL_isStep_692 : decode cL_isStep 692 = .ok (.iload 4, 2) := by decide +kernel
theorem dL_isStep_694 : decode cL_isStep 694 = .ok (.imul, 1) := by decide +kernel
theorem dL_isStep_695 : decode cL_isStep 695 = .ok (.invokevirtual 28, 3) := by decide +kernel
theorem dL_isStep_698 : decode cL_isStep 698 = .ok (.iconst 2, 1) := by decide +kernel
theorem dL_isStep_699 : decode cL_isStep 699 = .ok (.iload 4, 2) := by decide +kernel
theorem dL_isStep_701 : decode cL_isStep 701 = .ok (.imul, 1) := by decide +kernel
theorem dL_isStep_702 : decode cL_isStep 702 = .ok (.iconst 1, 1) := by decide +kernel
theorem dL_isStep_703 : decode cL_isStep 703 = .ok (.iadd, 1) := by decide +kernel
theorem dL_isStep_704 : decode cL_isStep 704 = .ok (.if_icmp .ne 7, 3) := by decide +kernel
theorem dL_isStep_707 : decode cL_isStep 707 = .ok (.iconst 1, 1) := by decide +kernel
theorem dL_isStep_708 : decode cL_isStep 708 = .ok (.goto 4, 3) := by decide +kernel
theorem dL_isStep_711 : decode cL_isStep 711 = .ok (.iconst 0, 1) := by decide +kernel
theorem dL_isStep_712 : decode cL_isStep 712 = .ok (.ireturn, 1) := by decide +kernel
theorem dL_isStep_713 : decode cL_isStep 713 = .ok (.iconst 1, 1) := by decide +kernel
theorem dL_isStep_714 : decode cL_isStep 714 = .ok (.iload 5, 2) := by decide +kernel
theorem dL_isStep_716 : decode cL_isStep 716 = .ok (.bipush 60, 2) := by decide +kernel
theorem dL_isStep_718 : decode cL_isStep 718 = .ok (.invokestatic 15, 3) := by decide +kernel
theorem dL_isStep_721 : decode cL_isStep 721 = .ok (.iadd, 1) := by decide +kernel
theorem dL_isStep_722 : decode cL_isStep 722 = .ok (.istore 10, 2) := by decide +kernel
theorem dL_isStep_724 : decode cL_isStep 724 = .ok (.iload 6, 2) := by decide +kernel
theorem dL_isStep_726 : decode cL_isStep 726 = .ok (.iload 4, 2) := by decide +kernel
theorem dL_isStep_728 : decode cL_isStep 728 = .ok (.if_icmp .ne 23, 3) := by decide +kernel
theorem dL_isStep_731 : decode cL_isStep 731 = .ok (.aload_n 0, 1) := by decide +kernel
theorem dL_isStep_732 : decode cL_isStep 732 = .ok (.iload 6, 2) := by decide +kernel
theorem dL_isStep_734 : decode cL_isStep 734 = .ok (.iconst 1, 1) := by decide +kernel
theorem dL_isStep_735 : decode cL_isStep 735 = .ok (.invokevirtual 45, 3) := by decide +kernel
theorem dL_isStep_738 : decode cL_isStep 738 = .ok (.ldc 35, 2) := by decide +kernel
theorem dL_isStep_740 : decode cL_isStep 740 = .ok (.if_icmp .ne 7, 3) := by decide +kernel
theorem dL_isStep_743 : decode cL_isStep 743 = .ok (.iconst 1, 1) := by decide +kernel
theorem dL_isStep_744 : decode cL_isStep 744 = .ok (.goto 59, 3) := by decide +kernel
theorem dL_isStep_747 : decode cL_isStep 747 = .ok (.iconst 0, 1) := by decide +kernel
theorem dL_isStep_748 : decode cL_isStep 748 = .ok (.goto 55, 3) := by decide +kernel
theorem dL_isStep_751 : decode cL_isStep 751 = .ok (.aload_n 0, 1) := by decide +kernel
theorem dL_isStep_752 : decode cL_isStep 752 = .ok (.iload 6, 2) := by decide +kernel
theorem dL_isStep_754 : decode cL_isStep 754 = .ok (.iload 10, 2) := by decide +kernel
theorem dL_isStep_756 : decode cL_isStep 756 = .ok (.invokevirtual 45, 3) := by decide +kernel
theorem dL_isStep_759 : decode cL_isStep 759 = .ok (.iload 4, 2) := by decide +kernel
theorem dL_isStep_761 : decode cL_isStep 761 = .ok (.if_icmp .ne 41, 3) := by decide +kernel
theorem dL_isStep_764 : decode cL_isStep 764 = .ok (.aload_n 1, 1) := by decide +kernel
theorem dL_isStep_765 : decode cL_isStep 765 = .ok (.iconst 2, 1) := by decide +kernel
theorem dL_isStep_766 : decode cL_isStep 766 = .ok (.iload 6, 2) := by decide +kernel
theorem dL_isStep_768 : decode cL_isStep 768 = .ok (.imul, 1) := by decide +kernel
theorem dL_isStep_769 : decode cL_isStep 769 = .ok (.iload 10, 2) := by decide +kernel
theorem dL_isStep_771 : decode cL_isStep 771 = .ok (.invokevirtual 45, 3) := by decide +kernel
theorem dL_isStep_774 : decode cL_isStep 774 = .ok (.iconst 2, 1) := by decide +kernel
theorem dL_isStep_775 : decode cL_isStep 775 = .ok (.iload 4, 2) := by decide +kernel
theorem dL_isStep_777 : decode cL_isStep 777 = .ok (.imul, 1) := by decide +kernel
theorem dL_isStep_778 : decode cL_isStep 778 = .ok (.if_icmp .ne 24, 3) := by decide +kernel
theorem dL_isStep_781 : decode cL_isStep 781 = .ok (.aload_n 1, 1) := by decide +kernel
theorem dL_isStep_782 : decode cL_isStep 782 = .ok (.iconst 2, 1) := by decide +kernel
theorem dL_isStep_783 : decode cL_isStep 783 = .ok (.iload 4, 2) := by decide +kernel
theorem dL_isStep_785 : decode cL_isStep 785 = .ok (.imul, 1) := by decide +kernel
theorem dL_isStep_786 : decode cL_isStep 786 = .ok (.invokevirtual 28, 3) := by decide +kernel
theorem dL_isStep_789 : decode cL_isStep 789 = .ok (.iconst 2, 1) := by decide +kernel
theorem dL_isStep_790 : decode cL_isStep 790 = .ok (.iload 4, 2) := by decide +kernel
theorem dL_isStep_792 : decode cL_isStep 792 = .ok (.imul, 1) := by decide +kernel
theorem dL_isStep_793 : decode cL_isStep 793 = .ok (.iconst 1, 1) := by decide +kernel
theorem dL_isStep_794 : decode cL_isStep 794 = .ok (.iadd, 1) := by decide +kernel
theorem dL_isStep_795 : decode cL_isStep 795 = .ok (.if_icmp .ne 7, 3) := by decide +kernel
theorem dL_isStep_798 : decode cL_isStep 798 = .ok (.iconst 1, 1) := by decide +kernel
theorem dL_isStep_799 : decode cL_isStep 799 = .ok (.goto 4, 3) := by decide +kernel
theorem dL_isStep_802 : decode cL_isStep 802 = .ok (.iconst 0, 1) := by decide +kernel
theorem dL_isStep_803 : decode cL_isStep 803 = .ok (.ireturn, 1) := by decide +kernel
theorem dL_isStep_804 : decode cL_isStep 804 = .ok (.iload 5, 2) := by decide +kernel
theorem dL_isStep_806 : decode cL_isStep 806 = .ok (.sipush 257, 3) := by decide +kernel
theorem dL_isStep_809 : decode cL_isStep 809 = .ok (.invokestatic 15, 3) := by decide +kernel
theorem dL_isStep_812 : decode cL_isStep 812 = .ok (.istore 10, 2) := by decide +kernel
theorem dL_isStep_814 : decode cL_isStep 814 = .ok (.iconst 1, 1) := by decide +kernel
theorem dL_isStep_815 : decode cL_isStep 815 = .ok (.iload_n 3, 1) := by decide +kernel
theorem dL_isStep_816 : decode cL_isStep 816 = .ok (.bipush 9, 2) := by decide +kernel
theorem dL_isStep_818 : decode cL_isStep 818 = .ok (.ishr, 1) := by decide +kernel
theorem dL_isStep_819 : decode cL_isStep 819 = .ok (.sipush 255, 3) := by decide +kernel
theorem dL_isStep_822 : decode cL_isStep 822 = .ok (.invokestatic 15, 3) := by decide +kernel
theorem dL_isStep_825 : decode cL_isStep 825 = .ok (.iadd, 1) := by decide +kernel
theorem dL_isStep_826 : decode cL_isStep 826 = .ok (.istore 11, 2) := by decide +kernel
theorem dL_isStep_828 : decode cL_isStep 828 = .ok (.iload 6, 2) := by decide +kernel
theorem dL_isStep_830 : decode cL_isStep 830 = .ok (.iload 4, 2) := by decide +kernel
theorem dL_isStep_832 : decode cL_isStep 832 = .ok (.if_icmp .ne 24, 3) := by decide +kernel
theorem dL_isStep_835 : decode cL_isStep 835 = .ok (.aload_n 0, 1) := by decide +kernel
theorem dL_isStep_836 : decode cL_isStep 836 = .ok (.iload 6, 2) := by decide +kernel
theorem dL_isStep_838 : decode cL_isStep 838 = .ok (.iload 10, 2) := by decide +kernel
theorem dL_isStep_840 : decode cL_isStep 840 = .ok (.iload 11, 2) := by decide +kernel
theorem dL_isStep_842 : decode cL_isStep 842 = .ok (.invokevirtual 48, 3) := by decide +kernel
theorem dL_isStep_845 : decode cL_isStep 845 = .ok (.ldc 35, 2) := by decide +kernel
theorem dL_isStep_847 : decode cL_isStep 847 = .ok (.if_icmp .ne 7, 3) := by decide +kernel
theorem dL_isStep_850 : decode cL_isStep 850 = .ok (.iconst 1, 1) := by decide +kernel
theorem dL_isStep_851 : decode cL_isStep 851 = .ok (.goto 4, 3) := by decide +kernel
theorem dL_isStep_854 : decode cL_isStep 854 = .ok (.iconst 0, 1) := by decide +kernel
theorem dL_isStep_855 : decode cL_isStep 855 = .ok (.ireturn, 1) := by decide +kernel
theorem dL_isStep_856 : decode cL_isStep 856 = .ok (.aload_n 0, 1) := by decide +kernel
theorem dL_isStep_857 : decode cL_isStep 857 = .ok (.iload 6, 2) := by decide +kernel
theorem dL_isStep_859 : decode cL_isStep 859 = .ok (.iload 10, 2) := by decide +kernel
theorem dL_isStep_861 : decode cL_isStep 861 = .ok (.iload 11, 2) := by decide +kernel
theorem dL_isStep_863 : decode cL_isStep 863 = .ok (.invokevirtual 48, 3) := by decide +kernel
theorem dL_isStep_866 : decode cL_isStep 866 = .ok (.istore 12, 2) := by decide +kernel
theorem dL_isStep_868 : decode cL_isStep 868 = .ok (.iload 12, 2) := by decide +kernel
theorem dL_isStep_870 : decode cL_isStep 870 = .ok (.aload_n 1, 1) := by decide +kernel
theorem dL_isStep_871 : decode cL_isStep 871 = .ok (.iconst 2, 1) := by decide +kernel
theorem dL_isStep_872 : decode cL_isStep 872 = .ok (.iload 6, 2) := by decide +kernel
theorem dL_isStep_874 : decode cL_isStep 874 = .ok (.imul, 1) := by decide +kernel
theorem dL_isStep_875 : decode cL_isStep 875 = .ok (.iload 10, 2) := by decide +kernel
theorem dL_isStep_877 : decode cL_isStep 877 = .ok (.iload 11, 2) := by decide +kernel
theorem dL_isStep_879 : decode cL_isStep 879 = .ok (.invokevirtual 48, 3) := by decide +kernel
theorem dL_isStep_882 : decode cL_isStep 882 = .ok (.if_icmp .ne 37, 3) := by decide +kernel
theorem dL_isStep_885 : decode cL_isStep 885 = .ok (.iload 12, 2) := by decide +kernel
theorem dL_isStep_887 : decode cL_isStep 887 = .ok (.ldc 51, 2) := by decide +kernel
theorem dL_isStep_889 : decode cL_isStep 889 = .ok (.if_icmp .ne 7, 3) := by decide +kernel
theorem dL_isStep_892 : decode cL_isStep 892 = .ok (.iconst 1, 1) := by decide +kernel
theorem dL_isStep_893 : decode cL_isStep 893 = .ok (.goto 4, 3) := by decide +kernel
theorem dL_isStep_896 : decode cL_isStep 896 = .ok (.iconst 0, 1) := by decide +kernel
theorem dL_isStep_897 : decode cL_isStep 897 = .ok (.aload_n 0, 1) := by decide +kernel
theorem dL_isStep_898 : decode cL_isStep 898 = .ok (.iload 6, 2) := by decide +kernel
theorem dL_isStep_900 : decode cL_isStep 900 = .ok (.iconst 0, 1) := by decide +kernel
theorem dL_isStep_901 : decode cL_isStep 901 = .ok (.invokevirtual 36, 3) := by decide +kernel
theorem dL_isStep_904 : decode cL_isStep 904 = .ok (.ifCond .le 7, 3) := by decide +kernel
theorem dL_isStep_907 : decode cL_isStep 907 = .ok (.iconst 1, 1) := by decide +kernel
theorem dL_isStep_908 : decode cL_isStep 908 = .ok (.goto 4, 3) := by decide +kernel
theorem dL_isStep_911 : decode cL_isStep 911 = .ok (.iconst 0, 1) := by decide +kernel
theorem dL_isStep_912 : decode cL_isStep 912 = .ok (.if_icmp .ne 7, 3) := by decide +kernel
theorem dL_isStep_915 : decode cL_isStep 915 = .ok (.iconst 1, 1) := by decide +kernel
theorem dL_isStep_916 : decode cL_isStep 916 = .ok (.goto 4, 3) := by decide +kernel
theorem dL_isStep_919 : decode cL_isStep 919 = .ok (.iconst 0, 1) := by decide +kernel
theorem dL_isStep_920 : decode cL_isStep 920 = .ok (.ireturn, 1) := by decide +kernel
theorem dL_isStep_921 : decode cL_isStep 921 = .ok (.iconst 1, 1) := by decide +kernel
theorem dL_isStep_922 : decode cL_isStep 922 = .ok (.iload_n 3, 1) := by decide +kernel
theorem dL_isStep_923 : decode cL_isStep 923 = .ok (.iload 5, 2) := by decide +kernel
theorem dL_isStep_925 : decode cL_isStep 925 = .ok (.iconst 4, 1) := by decide +kernel
theorem dL_isStep_926 : decode cL_isStep 926 = .ok (.invokestatic 15, 3) := by decide +kernel
theorem dL_isStep_929 : decode cL_isStep 929 = .ok (.ifCond .ne 9, 3) := by decide +kernel
theorem dL_isStep_932 : decode cL_isStep 932 = .ok (.sipush 1000, 3) := by decide +kernel
theorem dL_isStep_935 : decode cL_isStep 935 = .ok (.goto 6, 3) := by decide +kernel
theorem dL_isStep_938 : decode cL_isStep 938 = .ok (.sipush 200, 3) := by decide +kernel
theorem dL_isStep_941 : decode cL_isStep 941 = .ok (.invokestatic 15, 3) := by decide +kernel
theorem dL_isStep_944 : decode cL_isStep 944 = .ok (.iadd, 1) := by decide +kernel
theorem dL_isStep_945 : decode cL_isStep 945 = .ok (.istore 10, 2) := by decide +kernel
theorem dL_isStep_947 : decode cL_isStep 947 = .ok (.aload_n 0, 1) := by decide +kernel
theorem dL_isStep_948 : decode cL_isStep 948 = .ok (.iload 10, 2) := by decide +kernel
theorem dL_isStep_950 : decode cL_isStep 950 = .ok (.invokevirtual 52, 3) := by decide +kernel
theorem dL_isStep_953 : decode cL_isStep 953 = .ok (.aload_n 1, 1) := by decide +kernel
theorem dL_isStep_954 : decode cL_isStep 954 = .ok (.iload 10, 2) := by decide +kernel
theorem dL_isStep_956 : decode cL_isStep 956 = .ok (.invokevirtual 52, 3) := by decide +kernel
theorem dL_isStep_959 : decode cL_isStep 959 = .ok (.if_icmp .ne 17, 3) := by decide +kernel
theorem dL_isStep_962 : decode cL_isStep 962 = .ok (.aload_n 0, 1) := by decide +kernel
theorem dL_isStep_963 : decode cL_isStep 963 = .ok (.iconst 1, 1) := by decide +kernel
theorem dL_isStep_964 : decode cL_isStep 964 = .ok (.invokevirtual 9, 3) := by decide +kernel
theorem dL_isStep_967 : decode cL_isStep 967 = .ok (.iload 10, 2) := by decide +kernel
theorem dL_isStep_969 : decode cL_isStep 969 = .ok (.if_icmp .ne 7, 3) := by decide +kernel
theorem dL_isStep_972 : decode cL_isStep 972 = .ok (.iconst 1, 1) := by decide +kernel
theorem dL_isStep_973 : decode cL_isStep 973 = .ok (.goto 4, 3) := by decide +kernel
theorem dL_isStep_976 : decode cL_isStep 976 = .ok (.iconst 0, 1) := by decide +kernel
theorem dL_isStep_977 : decode cL_isStep 977 = .ok (.ireturn, 1) := by decide +kernel
theorem dL_isStep_978 : decode cL_isStep 978 = .ok (.iload 6, 2) := by decide +kernel
theorem dL_isStep_980 : decode cL_isStep 980 = .ok (.iload 4, 2) := by decide +kernel
theorem dL_isStep_982 : decode cL_isStep 982 = .ok (.if_icmp .eq 28, 3) := by decide +kernel
theorem dL_isStep_985 : decode cL_isStep 985 = .ok (.aload_n 0, 1) := by decide +kernel
theorem dL_isStep_986 : decode cL_isStep 986 = .ok (.iload 6, 2) := by decide +kernel
theorem dL_isStep_988 : decode cL_isStep 988 = .ok (.iload 7, 2) := by decide +kernel
theorem dL_isStep_990 : decode cL_isStep 990 = .ok (.iload 4, 2) := by decide +kernel
theorem dL_isStep_992 : decode cL_isStep 992 = .ok (.if_icmp .ne 7, 3) := by decide +kernel
theorem dL_isStep_995 : decode cL_isStep 995 = .ok (.iconst 0, 1) := by decide +kernel
theorem dL_isStep_996 : decode cL_isStep 996 = .ok (.goto 5, 3) := by decide +kernel
theorem dL_isStep_999 : decode cL_isStep 999 = .ok (.iload 7, 2) := by decide +kernel
theorem dL_isStep_1001 : decode cL_isStep 1001 = .ok (.iload_n 3, 1) := by decide +kernel
theorem dL_isStep_1002 : decode cL_isStep 1002 = .ok (.iconst 4, 1) := by decide +kernel
theorem dL_isStep_1003 : decode cL_isStep 1003 = .ok (.ishr, 1) := by decide +kernel
theorem dL_isStep_1004 : decode cL_isStep 1004 = .ok (.invokestatic 55, 3) := by decide +kernel
theorem dL_isStep_1007 : decode cL_isStep 1007 = .ok (.ifCond .eq 7, 3) := by decide +kernel
theorem dL_isStep_1010 : decode cL_isStep 1010 = .ok (.iconst 1, 1) := by decide +kernel
theorem dL_isStep_1011 : decode cL_isStep 1011 = .ok (.goto 4, 3) := by decide +kernel
theorem dL_isStep_1014 : decode cL_isStep 1014 = .ok (.iconst 0, 1) := by decide +kernel
theorem dL_isStep_1015 : decode cL_isStep 1015 = .ok (.ireturn, 1) := by decide +kernel
theorem dL_isStep_1016 : decode cL_isStep 1016 = .ok (.iload 4, 2) := by decide +kernel
theorem dL_isStep_1018 : decode cL_isStep 1018 = .ok (.ifCond .eq 17, 3) := by decide +kernel
theorem dL_isStep_1021 : decode cL_isStep 1021 = .ok (.aload_n 0, 1) := by decide +kernel
theorem dL_isStep_1022 : decode cL_isStep 1022 = .ok (.aload_n 1, 1) := by decide +kernel
theorem dL_isStep_1023 : decode cL_isStep 1023 = .ok (.iload_n 3, 1) := by decide +kernel
theorem dL_isStep_1024 : decode cL_isStep 1024 = .ok (.iload 4, 2) := by decide +kernel
theorem dL_isStep_1026 : decode cL_isStep 1026 = .ok (.invokestatic 15, 3) := by decide +kernel
theorem dL_isStep_1029 : decode cL_isStep 1029 = .ok (.invokestatic 59, 3) := by decide +kernel
theorem dL_isStep_1032 : decode cL_isStep 1032 = .ok (.ifCond .eq 7, 3) := by decide +kernel
theorem dL_isStep_1035 : decode cL_isStep 1035 = .ok (.iconst 1, 1) := by decide +kernel
theorem dL_isStep_1036 : decode cL_isStep 1036 = .ok (.goto 4, 3) := by decide +kernel
theorem dL_isStep_1039 : decode cL_isStep 1039 = .ok (.iconst 0, 1) := by decide +kernel
theorem dL_isStep_1040 : decode cL_isStep 1040 = .ok (.ireturn, 1) := by decide +kernel
