theorem d_Lw_law_411 : decode code 411 = .ok (.aload_n 2, 1) := by decide +kernel
theorem d_Lw_law_412 : decode code 412 = .ok (.aload_n 0, 1) := by decide +kernel
theorem d_Lw_law_413 : decode code 413 = .ok (.iload 4, 2) := by decide +kernel
theorem d_Lw_law_415 : decode code 415 = .ok (.iconst 1, 1) := by decide +kernel
theorem d_Lw_law_416 : decode code 416 = .ok (.iadd, 1) := by decide +kernel
theorem d_Lw_law_417 : decode code 417 = .ok (.iaload, 1) := by decide +kernel
theorem d_Lw_law_418 : decode code 418 = .ok (.aload_n 0, 1) := by decide +kernel
theorem d_Lw_law_419 : decode code 419 = .ok (.iload 4, 2) := by decide +kernel
theorem d_Lw_law_421 : decode code 421 = .ok (.iconst 2, 1) := by decide +kernel
theorem d_Lw_law_422 : decode code 422 = .ok (.iadd, 1) := by decide +kernel
theorem d_Lw_law_423 : decode code 423 = .ok (.iaload, 1) := by decide +kernel
theorem d_Lw_law_424 : decode code 424 = .ok (.aload_n 0, 1) := by decide +kernel
theorem d_Lw_law_425 : decode code 425 = .ok (.iload 4, 2) := by decide +kernel
theorem d_Lw_law_427 : decode code 427 = .ok (.iconst 3, 1) := by decide +kernel
theorem d_Lw_law_428 : decode code 428 = .ok (.iadd, 1) := by decide +kernel
theorem d_Lw_law_429 : decode code 429 = .ok (.iaload, 1) := by decide +kernel
theorem d_Lw_law_430 : decode code 430 = .ok (.invokevirtual 108, 3) := by decide +kernel
theorem d_Lw_law_433 : decode code 433 = .ok (.aload_n 2, 1) := by decide +kernel
theorem d_Lw_law_434 : decode code 434 = .ok (.invokevirtual 89, 3) := by decide +kernel
theorem d_Lw_law_437 : decode code 437 = .ok (.iload 5, 2) := by decide +kernel
theorem d_Lw_law_439 : decode code 439 = .ok (.if_icmp .eq 5, 3) := by decide +kernel
theorem d_Lw_law_442 : decode code 442 = .ok (.iconst 0, 1) := by decide +kernel
theorem d_Lw_law_443 : decode code 443 = .ok (.ireturn, 1) := by decide +kernel
theorem d_Lw_law_444 : decode code 444 = .ok (.goto 903, 3) := by decide +kernel
theorem d_Lw_law_447 : decode code 447 = .ok (.aload_n 1, 1) := by decide +kernel
theorem d_Lw_law_448 : decode code 448 = .ok (.aload_n 0, 1) := by decide +kernel
theorem d_Lw_law_449 : decode code 449 = .ok (.iload 4, 2) := by decide +kernel
theorem d_Lw_law_451 : decode code 451 = .ok (.iconst 1, 1) := by decide +kernel
theorem d_Lw_law_452 : decode code 452 = .ok (.iadd, 1) := by decide +kernel
theorem d_Lw_law_453 : decode code 453 = .ok (.iaload, 1) := by decide +kernel
theorem d_Lw_law_454 : decode code 454 = .ok (.aload_n 0, 1) := by decide +kernel
theorem d_Lw_law_455 : decode code 455 = .ok (.iload 4, 2) := by decide +kernel
theorem d_Lw_law_457 : decode code 457 = .ok (.iconst 2, 1) := by decide +kernel
theorem d_Lw_law_458 : decode code 458 = .ok (.iadd, 1) := by decide +kernel
theorem d_Lw_law_459 : decode code 459 = .ok (.iaload, 1) := by decide +kernel
theorem d_Lw_law_460 : decode code 460 = .ok (.aload_n 3, 1) := by decide +kernel
theorem d_Lw_law_461 : decode code 461 = .ok (.invokestatic 109, 3) := by decide +kernel
theorem d_Lw_law_464 : decode code 464 = .ok (.istore 5, 2) := by decide +kernel
theorem d_Lw_law_466 : decode code 466 = .ok (.aload_n 2, 1) := by decide +kernel
theorem d_Lw_law_467 : decode code 467 = .ok (.aload_n 0, 1) := by decide +kernel
theorem d_Lw_law_468 : decode code 468 = .ok (.iload 4, 2) := by decide +kernel
theorem d_Lw_law_470 : decode code 470 = .ok (.iconst 1, 1) := by decide +kernel
theorem d_Lw_law_471 : decode code 471 = .ok (.iadd, 1) := by decide +kernel
theorem d_Lw_law_472 : decode code 472 = .ok (.iaload, 1) := by decide +kernel
theorem d_Lw_law_473 : decode code 473 = .ok (.aload_n 0, 1) := by decide +kernel
theorem d_Lw_law_474 : decode code 474 = .ok (.iload 4, 2) := by decide +kernel
theorem d_Lw_law_476 : decode code 476 = .ok (.iconst 2, 1) := by decide +kernel
theorem d_Lw_law_477 : decode code 477 = .ok (.iadd, 1) := by decide +kernel
theorem d_Lw_law_478 : decode code 478 = .ok (.iaload, 1) := by decide +kernel
theorem d_Lw_law_479 : decode code 479 = .ok (.invokevirtual 111, 3) := by decide +kernel
theorem d_Lw_law_482 : decode code 482 = .ok (.istore 6, 2) := by decide +kernel
theorem d_Lw_law_484 : decode code 484 = .ok (.aload_n 2, 1) := by decide +kernel
theorem d_Lw_law_485 : decode code 485 = .ok (.invokevirtual 89, 3) := by decide +kernel
theorem d_Lw_law_488 : decode code 488 = .ok (.iload 5, 2) := by decide +kernel
theorem d_Lw_law_490 : decode code 490 = .ok (.if_icmp .eq 5, 3) := by decide +kernel
theorem d_Lw_law_493 : decode code 493 = .ok (.iconst 0, 1) := by decide +kernel
theorem d_Lw_law_494 : decode code 494 = .ok (.ireturn, 1) := by decide +kernel
theorem d_Lw_law_495 : decode code 495 = .ok (.iload 5, 2) := by decide +kernel
theorem d_Lw_law_497 : decode code 497 = .ok (.ifCond .ne 15, 3) := by decide +kernel
theorem d_Lw_law_500 : decode code 500 = .ok (.aload_n 3, 1) := by decide +kernel
theorem d_Lw_law_501 : decode code 501 = .ok (.iconst 0, 1) := by decide +kernel
theorem d_Lw_law_502 : decode code 502 = .ok (.laload, 1) := by decide +kernel
theorem d_Lw_law_503 : decode code 503 = .ok (.iload 6, 2) := by decide +kernel
theorem d_Lw_law_505 : decode code 505 = .ok (.i2l, 1) := by decide +kernel
theorem d_Lw_law_506 : decode code 506 = .ok (.lcmp, 1) := by decide +kernel
theorem d_Lw_law_507 : decode code 507 = .ok (.ifCond .eq 5, 3) := by decide +kernel
theorem d_Lw_law_510 : decode code 510 = .ok (.iconst 0, 1) := by decide +kernel
theorem d_Lw_law_511 : decode code 511 = .ok (.ireturn, 1) := by decide +kernel
theorem d_Lw_law_512 : decode code 512 = .ok (.goto 835, 3) := by decide +kernel
theorem d_Lw_law_515 : decode code 515 = .ok (.aload_n 1, 1) := by decide +kernel
theorem d_Lw_law_516 : decode code 516 = .ok (.aload_n 0, 1) := by decide +kernel
theorem d_Lw_law_517 : decode code 517 = .ok (.iload 4, 2) := by decide +kernel
theorem d_Lw_law_519 : decode code 519 = .ok (.iconst 1, 1) := by decide +kernel
theorem d_Lw_law_520 : decode code 520 = .ok (.iadd, 1) := by decide +kernel
theorem d_Lw_law_521 : decode code 521 = .ok (.iaload, 1) := by decide +kernel
theorem d_Lw_law_522 : decode code 522 = .ok (.aload_n 0, 1) := by decide +kernel
theorem d_Lw_law_523 : decode code 523 = .ok (.iload 4, 2) := by decide +kernel
theorem d_Lw_law_525 : decode code 525 = .ok (.iconst 2, 1) := by decide +kernel
theorem d_Lw_law_526 : decode code 526 = .ok (.iadd, 1) := by decide +kernel
theorem d_Lw_law_527 : decode code 527 = .ok (.iaload, 1) := by decide +kernel
theorem d_Lw_law_528 : decode code 528 = .ok (.aload_n 3, 1) := by decide +kernel
theorem d_Lw_law_529 : decode code 529 = .ok (.invokestatic 112, 3) := by decide +kernel
theorem d_Lw_law_532 : decode code 532 = .ok (.istore 5, 2) := by decide +kernel
theorem d_Lw_law_534 : decode code 534 = .ok (.aload_n 2, 1) := by decide +kernel
theorem d_Lw_law_535 : decode code 535 = .ok (.aload_n 0, 1) := by decide +kernel
theorem d_Lw_law_536 : decode code 536 = .ok (.iload 4, 2) := by decide +kernel
theorem d_Lw_law_538 : decode code 538 = .ok (.iconst 1, 1) := by decide +kernel
theorem d_Lw_law_539 : decode code 539 = .ok (.iadd, 1) := by decide +kernel
theorem d_Lw_law_540 : decode code 540 = .ok (.iaload, 1) := by decide +kernel
theorem d_Lw_law_541 : decode code 541 = .ok (.aload_n 0, 1) := by decide +kernel
theorem d_Lw_law_542 : decode code 542 = .ok (.iload 4, 2) := by decide +kernel
theorem d_Lw_law_544 : decode code 544 = .ok (.iconst 2, 1) := by decide +kernel
theorem d_Lw_law_545 : decode code 545 = .ok (.iadd, 1) := by decide +kernel
theorem d_Lw_law_546 : decode code 546 = .ok (.iaload, 1) := by decide +kernel
theorem d_Lw_law_547 : decode code 547 = .ok (.invokevirtual 114, 3) := by decide +kernel
theorem d_Lw_law_550 : decode code 550 = .ok (.istore 6, 2) := by decide +kernel
theorem d_Lw_law_552 : decode code 552 = .ok (.aload_n 2, 1) := by decide +kernel
theorem d_Lw_law_553 : decode code 553 = .ok (.invokevirtual 89, 3) := by decide +kernel
theorem d_Lw_law_556 : decode code 556 = .ok (.iload 5, 2) := by decide +kernel
theorem d_Lw_law_558 : decode code 558 = .ok (.if_icmp .eq 5, 3) := by decide +kernel
theorem d_Lw_law_561 : decode code 561 = .ok (.iconst 0, 1) := by decide +kernel
theorem d_Lw_law_562 : decode code 562 = .ok (.ireturn, 1) := by decide +kernel
theorem d_Lw_law_563 : decode code 563 = .ok (.iload 5, 2) := by decide +kernel
theorem d_Lw_law_565 : decode code 565 = .ok (.ifCond .ne 15, 3) := by decide +kernel
theorem d_Lw_law_568 : decode code 568 = .ok (.aload_n 3, 1) := by decide +kernel
theorem d_Lw_law_569 : decode code 569 = .ok (.iconst 0, 1) := by decide +kernel
theorem d_Lw_law_570 : decode code 570 = .ok (.laload, 1) := by decide +kernel
theorem d_Lw_law_571 : decode code 571 = .ok (.iload 6, 2) := by decide +kernel
theorem d_Lw_law_573 : decode code 573 = .ok (.i2l, 1) := by decide +kernel
theorem d_Lw_law_574 : decode code 574 = .ok (.lcmp, 1) := by decide +kernel
theorem d_Lw_law_575 : decode code 575 = .ok (.ifCond .eq 5, 3) := by decide +kernel
theorem d_Lw_law_578 : decode code 578 = .ok (.iconst 0, 1) := by decide +kernel
theorem d_Lw_law_579 : decode code 579 = .ok (.ireturn, 1) := by decide +kernel
theorem d_Lw_law_580 : decode code 580 = .ok (.goto 767, 3) := by decide +kernel
theorem d_Lw_law_583 : decode code 583 = .ok (.aload_n 1, 1) := by decide +kernel
theorem d_Lw_law_584 : decode code 584 = .ok (.aload_n 0, 1) := by decide +kernel
theorem d_Lw_law_585 : decode code 585 = .ok (.iload 4, 2) := by decide +kernel
theorem d_Lw_law_587 : decode code 587 = .ok (.iconst 1, 1) := by decide +kernel
theorem d_Lw_law_588 : decode code 588 = .ok (.iadd, 1) := by decide +kernel
theorem d_Lw_law_589 : decode code 589 = .ok (.iaload, 1) := by decide +kernel
theorem d_Lw_law_590 : decode code 590 = .ok (.aload_n 0, 1) := by decide +kernel
theorem d_Lw_law_591 : decode code 591 = .ok (.iload 4, 2) := by decide +kernel
theorem d_Lw_law_593 : decode code 593 = .ok (.iconst 2, 1) := by decide +kernel
theorem d_Lw_law_594 : decode code 594 = .ok (.iadd, 1) := by decide +kernel
theorem d_Lw_law_595 : decode code 595 = .ok (.iaload, 1) := by decide +kernel
theorem d_Lw_law_596 : decode code 596 = .ok (.aload_n 0, 1) := by decide +kernel
theorem d_Lw_law_597 : decode code 597 = .ok (.iload 4, 2) := by decide +kernel
theorem d_Lw_law_599 : decode code 599 = .ok (.iconst 3, 1) := by decide +kernel
theorem d_Lw_law_600 : decode code 600 = .ok (.iadd, 1) := by decide +kernel
theorem d_Lw_law_601 : decode code 601 = .ok (.iaload, 1) := by decide +kernel
theorem d_Lw_law_602 : decode code 602 = .ok (.aload_n 3, 1) := by decide +kernel
theorem d_Lw_law_603 : decode code 603 = .ok (.invokestatic 115, 3) := by decide +kernel
theorem d_Lw_law_606 : decode code 606 = .ok (.istore 5, 2) := by decide +kernel
theorem d_Lw_law_608 : decode code 608 = .ok (.aload_n 2, 1) := by decide +kernel
theorem d_Lw_law_609 : decode code 609 = .ok (.aload_n 0, 1) := by decide +kernel
theorem d_Lw_law_610 : decode code 610 = .ok (.iload 4, 2) := by decide +kernel
theorem d_Lw_law_612 : decode code 612 = .ok (.iconst 1, 1) := by decide +kernel
theorem d_Lw_law_613 : decode code 613 = .ok (.iadd, 1) := by decide +kernel
theorem d_Lw_law_614 : decode code 614 = .ok (.iaload, 1) := by decide +kernel
theorem d_Lw_law_615 : decode code 615 = .ok (.aload_n 0, 1) := by decide +kernel
theorem d_Lw_law_616 : decode code 616 = .ok (.iload 4, 2) := by decide +kernel
theorem d_Lw_law_618 : decode code 618 = .ok (.iconst 2, 1) := by decide +kernel
theorem d_Lw_law_619 : decode code 619 = .ok (.iadd, 1) := by decide +kernel
theorem d_Lw_law_620 : decode code 620 = .ok (.iaload, 1) := by decide +kernel
theorem d_Lw_law_621 : decode code 621 = .ok (.aload_n 0, 1) := by decide +kernel
theorem d_Lw_law_622 : decode code 622 = .ok (.iload 4, 2) := by decide +kernel
theorem d_Lw_law_624 : decode code 624 = .ok (.iconst 3, 1) := by decide +kernel
theorem d_Lw_law_625 : decode code 625 = .ok (.iadd, 1) := by decide +kernel
theorem d_Lw_law_626 : decode code 626 = .ok (.iaload, 1) := by decide +kernel
theorem d_Lw_law_627 : decode code 627 = .ok (.invokevirtual 118, 3) := by decide +kernel
theorem d_Lw_law_630 : decode code 630 = .ok (.istore 6, 2) := by decide +kernel
theorem d_Lw_law_632 : decode code 632 = .ok (.aload_n 2, 1) := by decide +kernel
theorem d_Lw_law_633 : decode code 633 = .ok (.invokevirtual 89, 3) := by decide +kernel
theorem d_Lw_law_636 : decode code 636 = .ok (.iload 5, 2) := by decide +kernel
theorem d_Lw_law_638 : decode code 638 = .ok (.if_icmp .eq 5, 3) := by decide +kernel
theorem d_Lw_law_641 : decode code 641 = .ok (.iconst 0, 1) := by decide +kernel
theorem d_Lw_law_642 : decode code 642 = .ok (.ireturn, 1) := by decide +kernel
theorem d_Lw_law_643 : decode code 643 = .ok (.iload 5, 2) := by decide +kernel
theorem d_Lw_law_645 : decode code 645 = .ok (.ifCond .ne 15, 3) := by decide +kernel
theorem d_Lw_law_648 : decode code 648 = .ok (.aload_n 3, 1) := by decide +kernel
theorem d_Lw_law_649 : decode code 649 = .ok (.iconst 0, 1) := by decide +kernel
theorem d_Lw_law_650 : decode code 650 = .ok (.laload, 1) := by decide +kernel
theorem d_Lw_law_651 : decode code 651 = .ok (.iload 6, 2) := by decide +kernel
theorem d_Lw_law_653 : decode code 653 = .ok (.i2l, 1) := by decide +kernel
theorem d_Lw_law_654 : decode code 654 = .ok (.lcmp, 1) := by decide +kernel
theorem d_Lw_law_655 : decode code 655 = .ok (.ifCond .eq 5, 3) := by decide +kernel
theorem d_Lw_law_658 : decode code 658 = .ok (.iconst 0, 1) := by decide +kernel
theorem d_Lw_law_659 : decode code 659 = .ok (.ireturn, 1) := by decide +kernel
theorem d_Lw_law_660 : decode code 660 = .ok (.goto 687, 3) := by decide +kernel
theorem d_Lw_law_663 : decode code 663 = .ok (.aload_n 1, 1) := by decide +kernel
theorem d_Lw_law_664 : decode code 664 = .ok (.aload_n 0, 1) := by decide +kernel
theorem d_Lw_law_665 : decode code 665 = .ok (.iload 4, 2) := by decide +kernel
theorem d_Lw_law_667 : decode code 667 = .ok (.iconst 1, 1) := by decide +kernel
theorem d_Lw_law_668 : decode code 668 = .ok (.iadd, 1) := by decide +kernel
theorem d_Lw_law_669 : decode code 669 = .ok (.iaload, 1) := by decide +kernel
theorem d_Lw_law_670 : decode code 670 = .ok (.aload_n 0, 1) := by decide +kernel
theorem d_Lw_law_671 : decode code 671 = .ok (.iload 4, 2) := by decide +kernel
theorem d_Lw_law_673 : decode code 673 = .ok (.iconst 2, 1) := by decide +kernel
theorem d_Lw_law_674 : decode code 674 = .ok (.iadd, 1) := by decide +kernel
theorem d_Lw_law_675 : decode code 675 = .ok (.iaload, 1) := by decide +kernel
theorem d_Lw_law_676 : decode code 676 = .ok (.aload_n 0, 1) := by decide +kernel
theorem d_Lw_law_677 : decode code 677 = .ok (.iload 4, 2) := by decide +kernel
theorem d_Lw_law_679 : decode code 679 = .ok (.iconst 3, 1) := by decide +kernel
theorem d_Lw_law_680 : decode code 680 = .ok (.iadd, 1) := by decide +kernel
theorem d_Lw_law_681 : decode code 681 = .ok (.iaload, 1) := by decide +kernel
theorem d_Lw_law_682 : decode code 682 = .ok (.aload_n 3, 1) := by decide +kernel
theorem d_Lw_law_683 : decode code 683 = .ok (.invokestatic 119, 3) := by decide +kernel
theorem d_Lw_law_686 : decode code 686 = .ok (.istore 5, 2) := by decide +kernel
theorem d_Lw_law_688 : decode code 688 = .ok (.aload_n 2, 1) := by decide +kernel
theorem d_Lw_law_689 : decode code 689 = .ok (.aload_n 0, 1) := by decide +kernel
theorem d_Lw_law_690 : decode code 690 = .ok (.iload 4, 2) := by decide +kernel
theorem d_Lw_law_692 : decode code 692 = .ok (.iconst 1, 1) := by decide +kernel
theorem d_Lw_law_693 : decode code 693 = .ok (.iadd, 1) := by decide +kernel
theorem d_Lw_law_694 : decode code 694 = .ok (.iaload, 1) := by decide +kernel
theorem d_Lw_law_695 : decode code 695 = .ok (.aload_n 0, 1) := by decide +kernel
theorem d_Lw_law_696 : decode code 696 = .ok (.iload 4, 2) := by decide +kernel
theorem d_Lw_law_698 : decode code 698 = .ok (.iconst 2, 1) := by decide +kernel
theorem d_Lw_law_699 : decode code 699 = .ok (.iadd, 1) := by decide +kernel
theorem d_Lw_law_700 : decode code 700 = .ok (.iaload, 1) := by decide +kernel
theorem d_Lw_law_701 : decode code 701 = .ok (.aload_n 0, 1) := by decide +kernel
theorem d_Lw_law_702 : decode code 702 = .ok (.iload 4, 2) := by decide +kernel
theorem d_Lw_law_704 : decode code 704 = .ok (.iconst 3, 1) := by decide +kernel
theorem d_Lw_law_705 : decode code 705 = .ok (.iadd, 1) := by decide +kernel
theorem d_Lw_law_706 : decode code 706 = .ok (.iaload, 1) := by decide +kernel
theorem d_Lw_law_707 : decode code 707 = .ok (.invokevirtual 121, 3) := by decide +kernel
theorem d_Lw_law_710 : decode code 710 = .ok (.istore 6, 2) := by decide +kernel
theorem d_Lw_law_712 : decode code 712 = .ok (.aload_n 2, 1) := by decide +kernel
theorem d_Lw_law_713 : decode code 713 = .ok (.invokevirtual 89, 3) := by decide +kernel
theorem d_Lw_law_716 : decode code 716 = .ok (.iload 5, 2) := by decide +kernel
theorem d_Lw_law_718 : decode code 718 = .ok (.if_icmp .eq 5, 3) := by decide +kernel
theorem d_Lw_law_721 : decode code 721 = .ok (.iconst 0, 1) := by decide +kernel
theorem d_Lw_law_722 : decode code 722 = .ok (.ireturn, 1) := by decide +kernel
theorem d_Lw_law_723 : decode code 723 = .ok (.iload 5, 2) := by decide +kernel
theorem d_Lw_law_725 : decode code 725 = .ok (.ifCond .ne 15, 3) := by decide +kernel
theorem d_Lw_law_728 : decode code 728 = .ok (.aload_n 3, 1) := by decide +kernel
theorem d_Lw_law_729 : decode code 729 = .ok (.iconst 0, 1) := by decide +kernel
theorem d_Lw_law_730 : decode code 730 = .ok (.laload, 1) := by decide +kernel
theorem d_Lw_law_731 : decode code 731 = .ok (.iload 6, 2) := by decide +kernel
theorem d_Lw_law_733 : decode code 733 = .ok (.i2l, 1) := by decide +kernel
theorem d_Lw_law_734 : decode code 734 = .ok (.lcmp, 1) := by decide +kernel
